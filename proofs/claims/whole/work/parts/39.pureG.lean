/-! ===== pure rows: handsToCorrect ===== -/
set_option maxRecDepth 100000 in
theorem dueN0 : ∀ y, y < 1440 → s_X4_dueAfter_0 (nI y) = nI (y / 60 % 12 + 1) := by decide +kernel
set_option maxRecDepth 100000 in
theorem lagN0 : ∀ d, d < 12 → ∀ p, p < 13 → 1 ≤ p → irem ((nI (d + 1) - nI p) + 12) 12 = nI ((d + 13 - p) % 12) := by decide +kernel
theorem lagM0 {f : Nat → Int32} (h1 : f 4 = 1) {p : Nat} (hp1 : 1 ≤ p) (hp2 : p ≤ 12) (ep : f 5 = nI p) {y : Nat} (hy : y < 1440) : s_X4_lagAt_0 f (nI y) = nI ((y / 60 + 13 - p) % 12) := by
  unfold s_X4_lagAt_0
  rw [if_pos h1, dueN0 y hy, ep, lagN0 (y / 60 % 12) (Nat.mod_lt _ (by omega)) p (by omega) hp1]
  congr 1
  omega
theorem htc_go0 {f : Nat → Int32} : ∀ (n x j : Nat), j ≤ n → x < 1440 → (∀ t, t < j → ¬ s_X4_lagAt_0 f (nI ((x + t) % 1440)) = 0) → s_X4_lagAt_0 f (nI ((x + j) % 1440)) = 0 → htcM0 f n (nI x) = nI ((x + j) % 1440) := by
  intro n
  induction n with
  | zero =>
    intro x j hj hx h h0
    have ej : (x + j) % 1440 = x := by omega
    rw [ej, htcM0]
  | succ n ih =>
    intro x j hj hx h h0
    rcases Nat.eq_zero_or_pos j with hz | hz
    · have ej : (x + j) % 1440 = x := by omega
      rw [ej] at h0 ⊢
      rw [htcM0, if_pos h0]
    · have h1 := h 0 hz
      have e0 : (x + 0) % 1440 = x := by omega
      rw [e0] at h1
      have ej : ((x + 1) % 1440 + (j - 1)) % 1440 = (x + j) % 1440 := by omega
      have hr := ih ((x + 1) % 1440) (j - 1) (by omega) (Nat.mod_lt _ (by omega)) (fun t ht => by
        have h2 := h (t + 1) (by omega)
        have et : ((x + 1) % 1440 + t) % 1440 = (x + (t + 1)) % 1440 := by omega
        rw [et]
        exact h2) (by rw [ej]; exact h0)
      rw [ej] at hr
      rw [htcM0, if_neg h1, next_min hx]
      exact hr
theorem htc_at0 {B : Nat} {f : Nat → Int32} (hG : Good B f) : s_X4_lagAt_0 f (htcM0 f 1440 (f 0)) = 0 ∧ htcM0 f 1440 (f 0) = (if s_X2_lagAt 0 (f 4) (f 5) (f 0) = 0 then f 0 else irem ((s_X2_lastReleaseUpTo 0 (f 0)) + (((s_X2_lastPosition 0) - (s_X2_lagAt 0 (f 4) (f 5) (f 0))) * (s_X2_period 0))) 1440) := by
  obtain ⟨x, hx, ex⟩ := hG.min
  obtain ⟨p, hp1, hp2, ep⟩ := hG.p0
  rw [lag0 hG, ex]
  by_cases hz : s_X4_lagAt_0 f (nI x) = 0
  · have e : htcM0 f 1440 (nI x) = nI x := by rw [htcM0, if_pos hz]
    rw [e, if_pos hz]
    exact ⟨hz, rfl⟩
  · have h1 : f 4 = 1 := by
      by_cases h : f 4 = 1
      · exact h
      · exact absurd (by unfold s_X4_lagAt_0; rw [if_neg h]) hz
    have el := lagM0 h1 hp1 hp2 ep hx
    have hlg : ¬ (x / 60 + 13 - p) % 12 = 0 := fun h => hz (by rw [el, h]; rfl)
    generalize hq : (x / 60 + 13 - p) % 12 = lg at el hlg
    have hl2 : lg < 12 := by omega
    obtain ⟨j, hj⟩ : ∃ j, j = (12 - lg) * 60 - x % 60 := ⟨_, rfl⟩
    have hxm : x % 60 < 60 := Nat.mod_lt _ (by omega)
    have hj2 : x + j = x / 60 * 60 + (12 - lg) * 60 := by omega
    have go : htcM0 f 1440 (nI x) = nI ((x + j) % 1440) := by
      refine htc_go0 1440 x j (by omega) hx (fun t ht => ?_) ?_
      · rw [lagM0 h1 hp1 hp2 ep (Nat.mod_lt _ (by omega))]
        refine nI_ne0 ?_ (by omega)
        have hs : (x + t) / 60 < x / 60 + (12 - lg) := by omega
        have hs2 : x / 60 ≤ (x + t) / 60 := by omega
        have hs3 : (x + t) % 1440 / 60 = (x + t) / 60 % 24 := by omega
        rw [hs3]
        omega
      · rw [lagM0 h1 hp1 hp2 ep (Nat.mod_lt _ (by omega))]
        have hs : (x + j) / 60 = x / 60 + (12 - lg) := by omega
        have hs3 : (x + j) % 1440 / 60 = (x + j) / 60 % 24 := by omega
        rw [hs3, hs, show ((x / 60 + (12 - lg)) % 24 + 13 - p) % 12 = 0 by omega]
        rfl
    have hzero : s_X4_lagAt_0 f (nI ((x + j) % 1440)) = 0 := by
      rw [lagM0 h1 hp1 hp2 ep (Nat.mod_lt _ (by omega))]
      have hs : (x + j) / 60 = x / 60 + (12 - lg) := by omega
      have hs3 : (x + j) % 1440 / 60 = (x + j) / 60 % 24 := by omega
      rw [hs3, hs, show ((x / 60 + (12 - lg)) % 24 + 13 - p) % 12 = 0 by omega]
      rfl
    rw [go]
    refine ⟨hzero, ?_⟩
    rw [if_neg hz, el]
    have c1 : s_X2_lastReleaseUpTo 0 (nI x) = nI (x - x % 60) := by
      show nI x - irem (nI x) 60 = nI (x - x % 60)
      have e2 : irem (nI x) 60 = nI (x % 60) := mod_nI (d := 60) (by omega) (by omega) (by omega)
      rw [e2]
      exact pk_sub (by omega)
    have c2 : s_X2_lastPosition 0 - nI lg = nI (12 - lg) := pk_sub (a := 12) (by omega)
    have c3 : nI (12 - lg) * s_X2_period 0 = nI ((12 - lg) * 60) := pk_mul (12 - lg) 60
    rw [c1, c2, c3, nI_add]
    have c4 : irem (nI (x - x % 60 + (12 - lg) * 60)) 1440 = nI ((x - x % 60 + (12 - lg) * 60) % 1440) := mod_nI (d := 1440) (by omega) (by omega) (by omega)
    rw [c4, show x - x % 60 + (12 - lg) * 60 = x + j by omega]
set_option maxRecDepth 100000 in
theorem dueN1 : ∀ y, y < 1440 → s_X4_dueAfter_1 (nI y) = nI (y / 15 % 4 + 1) := by decide +kernel
set_option maxRecDepth 100000 in
theorem lagN1 : ∀ d, d < 4 → ∀ p, p < 5 → 1 ≤ p → irem ((nI (d + 1) - nI p) + 4) 4 = nI ((d + 5 - p) % 4) := by decide +kernel
theorem lagM1 {f : Nat → Int32} (h1 : f 9 = 1) {p : Nat} (hp1 : 1 ≤ p) (hp2 : p ≤ 4) (ep : f 10 = nI p) {y : Nat} (hy : y < 1440) : s_X4_lagAt_1 f (nI y) = nI ((y / 15 + 5 - p) % 4) := by
  unfold s_X4_lagAt_1
  rw [if_pos h1, dueN1 y hy, ep, lagN1 (y / 15 % 4) (Nat.mod_lt _ (by omega)) p (by omega) hp1]
  congr 1
  omega
theorem htc_go1 {f : Nat → Int32} : ∀ (n x j : Nat), j ≤ n → x < 1440 → (∀ t, t < j → ¬ s_X4_lagAt_1 f (nI ((x + t) % 1440)) = 0) → s_X4_lagAt_1 f (nI ((x + j) % 1440)) = 0 → htcM1 f n (nI x) = nI ((x + j) % 1440) := by
  intro n
  induction n with
  | zero =>
    intro x j hj hx h h0
    have ej : (x + j) % 1440 = x := by omega
    rw [ej, htcM1]
  | succ n ih =>
    intro x j hj hx h h0
    rcases Nat.eq_zero_or_pos j with hz | hz
    · have ej : (x + j) % 1440 = x := by omega
      rw [ej] at h0 ⊢
      rw [htcM1, if_pos h0]
    · have h1 := h 0 hz
      have e0 : (x + 0) % 1440 = x := by omega
      rw [e0] at h1
      have ej : ((x + 1) % 1440 + (j - 1)) % 1440 = (x + j) % 1440 := by omega
      have hr := ih ((x + 1) % 1440) (j - 1) (by omega) (Nat.mod_lt _ (by omega)) (fun t ht => by
        have h2 := h (t + 1) (by omega)
        have et : ((x + 1) % 1440 + t) % 1440 = (x + (t + 1)) % 1440 := by omega
        rw [et]
        exact h2) (by rw [ej]; exact h0)
      rw [ej] at hr
      rw [htcM1, if_neg h1, next_min hx]
      exact hr
theorem htc_at1 {B : Nat} {f : Nat → Int32} (hG : Good B f) : s_X4_lagAt_1 f (htcM1 f 1440 (f 0)) = 0 ∧ htcM1 f 1440 (f 0) = (if s_X2_lagAt 1 (f 9) (f 10) (f 0) = 0 then f 0 else irem ((s_X2_lastReleaseUpTo 1 (f 0)) + (((s_X2_lastPosition 1) - (s_X2_lagAt 1 (f 9) (f 10) (f 0))) * (s_X2_period 1))) 1440) := by
  obtain ⟨x, hx, ex⟩ := hG.min
  obtain ⟨p, hp1, hp2, ep⟩ := hG.p1
  rw [lag1 hG, ex]
  by_cases hz : s_X4_lagAt_1 f (nI x) = 0
  · have e : htcM1 f 1440 (nI x) = nI x := by rw [htcM1, if_pos hz]
    rw [e, if_pos hz]
    exact ⟨hz, rfl⟩
  · have h1 : f 9 = 1 := by
      by_cases h : f 9 = 1
      · exact h
      · exact absurd (by unfold s_X4_lagAt_1; rw [if_neg h]) hz
    have el := lagM1 h1 hp1 hp2 ep hx
    have hlg : ¬ (x / 15 + 5 - p) % 4 = 0 := fun h => hz (by rw [el, h]; rfl)
    generalize hq : (x / 15 + 5 - p) % 4 = lg at el hlg
    have hl2 : lg < 4 := by omega
    obtain ⟨j, hj⟩ : ∃ j, j = (4 - lg) * 15 - x % 15 := ⟨_, rfl⟩
    have hxm : x % 15 < 15 := Nat.mod_lt _ (by omega)
    have hj2 : x + j = x / 15 * 15 + (4 - lg) * 15 := by omega
    have go : htcM1 f 1440 (nI x) = nI ((x + j) % 1440) := by
      refine htc_go1 1440 x j (by omega) hx (fun t ht => ?_) ?_
      · rw [lagM1 h1 hp1 hp2 ep (Nat.mod_lt _ (by omega))]
        refine nI_ne0 ?_ (by omega)
        have hs : (x + t) / 15 < x / 15 + (4 - lg) := by omega
        have hs2 : x / 15 ≤ (x + t) / 15 := by omega
        have hs3 : (x + t) % 1440 / 15 = (x + t) / 15 % 96 := by omega
        rw [hs3]
        omega
      · rw [lagM1 h1 hp1 hp2 ep (Nat.mod_lt _ (by omega))]
        have hs : (x + j) / 15 = x / 15 + (4 - lg) := by omega
        have hs3 : (x + j) % 1440 / 15 = (x + j) / 15 % 96 := by omega
        rw [hs3, hs, show ((x / 15 + (4 - lg)) % 96 + 5 - p) % 4 = 0 by omega]
        rfl
    have hzero : s_X4_lagAt_1 f (nI ((x + j) % 1440)) = 0 := by
      rw [lagM1 h1 hp1 hp2 ep (Nat.mod_lt _ (by omega))]
      have hs : (x + j) / 15 = x / 15 + (4 - lg) := by omega
      have hs3 : (x + j) % 1440 / 15 = (x + j) / 15 % 96 := by omega
      rw [hs3, hs, show ((x / 15 + (4 - lg)) % 96 + 5 - p) % 4 = 0 by omega]
      rfl
    rw [go]
    refine ⟨hzero, ?_⟩
    rw [if_neg hz, el]
    have c1 : s_X2_lastReleaseUpTo 1 (nI x) = nI (x - x % 15) := by
      show nI x - irem (nI x) 15 = nI (x - x % 15)
      have e2 : irem (nI x) 15 = nI (x % 15) := mod_nI (d := 15) (by omega) (by omega) (by omega)
      rw [e2]
      exact pk_sub (by omega)
    have c2 : s_X2_lastPosition 1 - nI lg = nI (4 - lg) := pk_sub (a := 4) (by omega)
    have c3 : nI (4 - lg) * s_X2_period 1 = nI ((4 - lg) * 15) := pk_mul (4 - lg) 15
    rw [c1, c2, c3, nI_add]
    have c4 : irem (nI (x - x % 15 + (4 - lg) * 15)) 1440 = nI ((x - x % 15 + (4 - lg) * 15) % 1440) := mod_nI (d := 1440) (by omega) (by omega) (by omega)
    rw [c4, show x - x % 15 + (4 - lg) * 15 = x + j by omega]
section PN
variable {B : Nat} {sc : Int32} {r : Nat → Int32} {e : Nat → Nat → Int32} {sr : Nat → Nat → Int32} {se : Nat → Nat → Nat → Int32} {sn : Int32} {f pf : Nat → Int32}
theorem Inv.h0 (I : Inv B sc r e sr se sn f pf) : s_X4_lagAt_0 f (htcM0 f 1440 (f 0)) = 0 := (htc_at0 I.2.2.2.1).1
theorem Inv.h1 (I : Inv B sc r e sr se sn f pf) : s_X4_lagAt_1 f (htcM1 f 1440 (f 0)) = 0 := (htc_at1 I.2.2.2.1).1
theorem pq_handsToCorrect (I : Inv B sc r e sr se sn f pf) (z : Nat → Int32) (tn : Int32) : s_X3_handsToCorrect z r tn = s_X4_handsToCorrect f z tn := by
  have h0 := (htc_at0 I.2.2.2.1).2
  have h1 := (htc_at1 I.2.2.2.1).2
  unfold s_X3_handsToCorrect s_X4_handsToCorrect
  rw [I.2.2.1.1 0 (by omega), I.2.2.1.1 4 (by omega), I.2.2.1.1 5 (by omega), I.2.2.1.1 9 (by omega), I.2.2.1.1 10 (by omega), h0, h1]
  by_cases t0 : tn = 0
  · rw [if_pos t0, if_pos t0]
    by_cases c : s_X2_lagAt 0 (f 4) (f 5) (f 0) = 0
    · rw [if_pos c, if_pos c]
    · rw [if_neg c, if_neg c]
  · rw [if_neg t0, if_neg t0]
    by_cases t1 : tn = 1
    · rw [if_pos t1, if_pos t1]
      by_cases c : s_X2_lagAt 1 (f 9) (f 10) (f 0) = 0
      · rw [if_pos c, if_pos c]
      · rw [if_neg c, if_neg c]
    · rw [if_neg t1, if_neg t1]
end PN
