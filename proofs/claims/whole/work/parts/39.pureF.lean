/-! ===== pure rows: a run, a trip ===== -/
theorem runM_add : ∀ (a b : Nat) (f : Nat → Int32) (s : Int32), runM (a + b) f s = runM b (runM a f s).2 (runM a f s).1
  | 0, b, f, s => by rw [Nat.zero_add]; rfl
  | a + 1, b, f, s => by
    rw [show a + 1 + b = (a + b) + 1 by omega]
    show runM (a + b) (s_X4_tick f).2 (s + (s_X4_tick f).1) = runM b (runM a (s_X4_tick f).2 (s + (s_X4_tick f).1)).2 (runM a (s_X4_tick f).2 (s + (s_X4_tick f).1)).1
    exact runM_add a b _ _
theorem runM_off : ∀ (a : Nat) (f : Nat → Int32) (s : Int32) (m : Nat), m < 1440 → f 0 = nI m → (∀ t, 1 ≤ t → t ≤ a → ¬ (m + t) % 15 = 0) → runM a f s = (s, upd f 0 (nI ((m + a) % 1440)))
  | 0, f, s, m, hm, e, _ => by
    rw [show (m + 0) % 1440 = m by omega, upd_self e]
    rfl
  | a + 1, f, s, m, hm, e, h => by
    show runM a (s_X4_tick f).2 (s + (s_X4_tick f).1) = _
    rw [tick_off hm e (h 1 (by omega) (by omega))]
    show runM a (upd f 0 (nI ((m + 1) % 1440))) (s + 0) = _
    rw [Int32.add_zero, runM_off a (upd f 0 (nI ((m + 1) % 1440))) s ((m + 1) % 1440) (by omega) rfl (fun t h1 h2 => by have := h (t + 1) (by omega) (by omega); omega), upd_upd, show ((m + 1) % 1440 + a) % 1440 = (m + (a + 1)) % 1440 by omega]
theorem good_min {B : Nat} {f : Nat → Int32} (h : Good B f) {x : Nat} (hx : x < 1440) : Good B (upd f 0 (nI x)) := by
  refine ⟨⟨?_, ?_⟩, h.2⟩
  · show 0 ≤ (nI x).toInt
    rw [nI_toInt (by omega)]; omega
  · show (nI x).toInt < 1440
    rw [nI_toInt (by omega)]; omega
theorem run_end {st M : Nat} (hst : st < 1440) (hM : M ≤ 1440) {k c B C : Nat} {r f : Nat → Int32} {e : Nat → Nat → Int32} {hd : Int32} (hR : Rel r e f) (hG : Good B f) (hBC : B ≤ C) (e0 : f 0 = nI ((st + c) % 1440)) (hc : c ≤ M) (hoff : ∀ t, c < t → t < k → ¬ (st + t) % 15 = 0) (hlt : M < k) :
    hd = (runM (M - c) f hd).1 ∧ Rel (upd r 0 (irem (nI st + nI M) 1440)) e (runM (M - c) f hd).2 ∧ Good C (runM (M - c) f hd).2 := by
  have e1 : runM (M - c) f hd = (hd, upd f 0 (nI (((st + c) % 1440 + (M - c)) % 1440))) := runM_off (M - c) f hd ((st + c) % 1440) (by omega) e0 (fun t h1 h2 => by have := hoff (c + t) (by omega) (by omega); omega)
  have e2 : irem (nI st + nI M) 1440 = nI ((st + M) % 1440) := by
    rw [nI_add]
    exact mod_nI (d := 1440) (by omega) (by omega) (by omega)
  rw [e1, e2, show ((st + c) % 1440 + (M - c)) % 1440 = (st + M) % 1440 by omega]
  exact ⟨rfl, rel_upd hR 0 (by omega) _, (good_min hG (by omega)).mono hBC⟩
theorem run_eq {st M : Nat} (hst : st < 1440) (hM : M ≤ 1440) : ∀ (n k c B : Nat) (r f : Nat → Int32) (e : Nat → Nat → Int32) (hd : Int32), Rel r e f → Good B f → B + n ≤ 800000 → f 0 = nI ((st + c) % 1440) → c ≤ M → c < k → (∀ t, c < t → t < k → ¬ (st + t) % 15 = 0) → (st + k) % 15 = 0 → k ≤ 2000 → M < k + 15 * n →
    (runL (nI st) M n k r e hd).1 = (runM (M - c) f hd).1 ∧ Rel (upd (runL (nI st) M n k r e hd).2.1 0 (irem (nI st + nI M) 1440)) (runL (nI st) M n k r e hd).2.2 (runM (M - c) f hd).2 ∧ Good (B + n) (runM (M - c) f hd).2 := by
  intro n
  induction n with
  | zero =>
    intro k c B r f e hd hR hG hB e0 hc hck hoff hk15 hk2 hMk
    exact run_end hst hM hR hG (by omega) e0 hc hoff (by omega)
  | succ n ih =>
    intro k c B r f e hd hR hG hB e0 hc hck hoff hk15 hk2 hMk
    rcases Nat.lt_or_ge M k with hlt | hge
    · have eL : runL (nI st) M (n + 1) k r e hd = (hd, r, e) := by rw [runL, if_pos hlt]
      rw [eL]
      exact run_end hst hM hR hG (by omega) e0 hc hoff hlt
    · have ek : irem (nI st + nI k) 1440 = nI ((st + k) % 1440) := by
        rw [nI_add]
        exact mod_nI (d := 1440) (by omega) (by omega) (by omega)
      have eL : runL (nI st) M (n + 1) k r e hd = runL (nI st) M n (k + 15) (s_X3_strikeQuarter (upd r 0 (nI ((st + k) % 1440))) e).2.1 (s_X3_strikeQuarter (upd r 0 (nI ((st + k) % 1440))) e).2.2 (hd + (s_X3_strikeQuarter (upd r 0 (nI ((st + k) % 1440))) e).1) := by rw [runL, if_neg (Nat.not_lt.mpr hge), ek]
      have e1 : runM (k - 1 - c) f hd = (hd, upd f 0 (nI (((st + c) % 1440 + (k - 1 - c)) % 1440))) := runM_off (k - 1 - c) f hd ((st + c) % 1440) (by omega) e0 (fun t h1 h2 => by have := hoff (c + t) (by omega) (by omega); omega)
      have em : ((st + c) % 1440 + (k - 1 - c)) % 1440 = (st + k - 1) % 1440 := by omega
      rw [em] at e1
      have e2 : runM (M - c) f hd = runM (M - k) (s_X4_tick (upd f 0 (nI ((st + k - 1) % 1440)))).2 (hd + (s_X4_tick (upd f 0 (nI ((st + k - 1) % 1440)))).1) := by
        rw [show M - c = (k - 1 - c) + ((M - k) + 1) by omega, runM_add, e1]
        rfl
      have hx : (st + k - 1) % 1440 < 1440 := Nat.mod_lt _ (by omega)
      have hq := quarter_eq (rel_upd hR 0 (by omega) (nI ((st + k - 1) % 1440))) (good_min hG hx) (by omega) hx rfl (show ((st + k - 1) % 1440 + 1) % 15 = 0 by omega)
      rw [upd_upd, show ((st + k - 1) % 1440 + 1) % 1440 = (st + k) % 1440 by omega] at hq
      obtain ⟨q1, q2, q3, q4⟩ := hq
      rw [eL, e2, q1, show B + (n + 1) = B + 1 + n by omega]
      exact ih (k + 15) k (B + 1) _ _ _ _ q2 q3 (by omega) q4 hge (by omega) (fun t h1 h2 => by omega) (by omega) (by omega) (by omega)
theorem k0f_eq {m : Nat} (hm : m < 1440) : k0f (nI m) = 15 - m % 15 := by
  have e : irem (nI m) 15 = nI (m % 15) := mod_nI (d := 15) (by omega) (by omega) (by omega)
  have e2 : (15 : Int32) - nI (m % 15) = nI (15 - m % 15) := pk_sub (a := 15) (by omega)
  unfold k0f
  rw [e, e2, nI_clamp (by omega)]
section PM
variable {B : Nat} {sc : Int32} {r : Nat → Int32} {e : Nat → Nat → Int32} {sr : Nat → Nat → Int32} {se : Nat → Nat → Nat → Int32} {sn : Int32} {f pf : Nat → Int32}
theorem pq_run (I : Inv B sc r e sr se sn f pf) (z : Nat → Int32) (q : Int32) (sa : Nat → Nat → Nat) (hB : B ≤ 60000) : (s_X3_run sc z r e sa sr se q).1 = (s_X4_run sn f pf z q).1 ∧ (s_X3_run sc z r e sa sr se q).2.2.1 = (s_X4_run sn f pf z q).2.2.2.2 ∧ Inv (B + 100) (s_X3_run sc z r e sa sr se q).2.1 (s_X3_run sc z r e sa sr se q).2.2.2.1 (s_X3_run sc z r e sa sr se q).2.2.2.2.1 (s_X3_run sc z r e sa sr se q).2.2.2.2.2.2.1 (s_X3_run sc z r e sa sr se q).2.2.2.2.2.2.2 (s_X4_run sn f pf z q).2.1 (s_X4_run sn f pf z q).2.2.1 (s_X4_run sn f pf z q).2.2.2.1 := by
  have J := I.mono (Nat.le_add_right B 100)
  by_cases a : q < 0
  · simp only [s_X3_run, s_X4_run, if_pos a, if_pos (in_lo (hi := 1440) a)]
    exact ⟨trivial, trivial, J⟩
  · by_cases b : q ≤ 1440
    · have hin := in_ok a (Int32.not_lt.mpr b)
      obtain ⟨M, hM, rfl⟩ := mnOk_nat ⟨Int32.not_lt.mp a, b⟩
      obtain ⟨m, hm, em⟩ := I.2.2.2.1.min
      have er : r 0 = nI m := (I.2.2.1.1 0 (by omega)).trans em
      have h := run_eq hm hM 100 (15 - m % 15) 0 B r f e 0 I.2.2.1 I.2.2.2.1 (by omega) (by rw [em, show (m + 0) % 1440 = m by omega]) (by omega) (by omega) (fun t h1 h2 => by omega) (by omega) (by omega) (by omega)
      rw [Nat.sub_zero] at h
      simp only [s_X3_run, s_X4_run, if_neg a, if_pos b, if_neg hin, er, k0f_eq hm, nI_clamp (show M < 2 ^ 31 by omega)]
      exact ⟨h.1, trivial, inv_save I (Nat.le_add_right B 100) h.2.1 h.2.2⟩
    · simp only [s_X3_run, s_X4_run, if_neg a, if_neg b, if_pos (in_hi a (Int32.not_le.mp b))]
      exact ⟨trivial, trivial, J⟩
set_option maxHeartbeats 1000000 in
theorem pq_trip (I : Inv B sc r e sr se sn f pf) (z : Nat → Int32) (tn : Int32) (sa : Nat → Nat → Nat) (hB : B ≤ 60000) : (s_X3_trip sc z r e sa sr se tn).1 = (s_X4_trip sn f pf z tn).1 ∧ (s_X3_trip sc z r e sa sr se tn).2.2.1 = (s_X4_trip sn f pf z tn).2.2.2.2 ∧ Inv (B + 100) (s_X3_trip sc z r e sa sr se tn).2.1 (s_X3_trip sc z r e sa sr se tn).2.2.2.1 (s_X3_trip sc z r e sa sr se tn).2.2.2.2.1 (s_X3_trip sc z r e sa sr se tn).2.2.2.2.2.2.1 (s_X3_trip sc z r e sa sr se tn).2.2.2.2.2.2.2 (s_X4_trip sn f pf z tn).2.1 (s_X4_trip sn f pf z tn).2.2.1 (s_X4_trip sn f pf z tn).2.2.2.1 := by
  have J := I.mono (Nat.le_add_right B 100)
  have hG : Good B f := I.2.2.2.1
  by_cases t0 : tn = 0
  · skip
    obtain ⟨e1, d, d1, d2, e2⟩ := due0 hG
    have R0 := I.2.2.1.1 0 (by omega)
    have R4 := I.2.2.1.1 4 (by omega)
    have R5 := I.2.2.1.1 5 (by omega)
    have R6 := I.2.2.1.1 6 (by omega)
    obtain ⟨w, hw, ew, -⟩ := pb_nat (n := 2000) hG.2.2.2.1.1 hG.2.2.2.1.2
    obtain ⟨pz, hp, ep, ep2⟩ := pb_nat (n := 12) (by have := hG.2.1.1; omega) hG.2.1.2
    have hp1 : 1 ≤ pz := by have := hG.2.1.1; omega
    by_cases m0 : f 4 = 0
    · have eC : s_X2_canStrike (r 4) (r 5) (r 6) (nI d) = 0 := by
        unfold s_X2_canStrike
        exact if_pos (R4.trans m0)
      have eB : s_X4_blowsOf_0 f (nI d) = 0 := by
        unfold s_X4_blowsOf_0
        exact if_pos m0
      simp only [s_X3_trip, s_X4_trip, if_pos t0, R0, e1, e2, if_pos eC, if_pos eB]
      exact ⟨trivial, trivial, J⟩
    · have hm : ¬ r 4 = 0 := fun z => m0 (R4.symm.trans z)
      obtain ⟨b, hb1, hb2, eF, eB⟩ : ∃ b : Nat, 1 ≤ b ∧ b ≤ 12 ∧ s_X2_blowsFor (r 4) (r 5) (nI d) = nI b ∧ s_X4_blowsOf_0 f (nI d) = nI b := by
        unfold s_X2_blowsFor s_X4_blowsOf_0
        by_cases m1 : f 4 = 1
        · exact ⟨pz, hp1, hp, (if_pos (R4.trans m1)).trans (R5.trans ep), (if_neg m0).trans ((if_pos m1).trans ep)⟩
        · exact ⟨d, d1, d2, if_neg (fun z => m1 (R4.symm.trans z)), (if_neg m0).trans (if_neg m1)⟩
      have hb0 : ¬ nI b = 0 := nI_ne0 (by omega) (by omega)
      rcases Nat.lt_or_ge w b with hwb | hwb
      · have eC : s_X2_canStrike (r 4) (r 5) (r 6) (nI d) = 0 := by
          unfold s_X2_canStrike
          rw [eF]
          exact (if_neg hm).trans (if_pos (by rw [R6, ew]; exact nI_lt hwb (by omega)))
        have hle : ¬ nI b ≤ f 6 := by rw [ew]; exact nI_ge hwb (by omega)
        simp only [s_X3_trip, s_X4_trip, if_pos t0, R0, e1, e2, if_pos eC, eB, if_neg hb0, if_neg hle]
        exact ⟨trivial, trivial, J⟩
      · have eC : ¬ s_X2_canStrike (r 4) (r 5) (r 6) (nI d) = 0 := by
          unfold s_X2_canStrike
          rw [eF, if_neg hm, if_neg (show ¬ r 6 < nI b by rw [R6, ew]; exact nI_nlt hwb (by omega))]
          decide
        have hle : nI b ≤ f 6 := by rw [ew]; exact nI_le hwb (by omega)
        have eV : s_X4_release_0 f (nI d) 0 = ((s_X4_strike_0 f (nI b) 0).1, (s_X4_strike_0 f (nI b) 0).2) := by
          unfold s_X4_release_0
          rw [eB, if_pos hle, if_neg hb0]
        obtain ⟨q1, q2, q3, -⟩ := rel_0 I.2.2.1 I.2.2.2.1.x (by omega) d1 d2 0
        rw [eV] at q1 q2 q3
        simp only [s_X3_trip, s_X4_trip, if_pos t0, R0, e1, e2, if_neg eC, eB, if_neg hb0, if_pos hle]
        exact ⟨q1, trivial, inv_save I (Nat.le_add_right B 100) q2 (q3.mono (by omega) (by omega)).good⟩
  · by_cases t1 : tn = 1
    · skip
      obtain ⟨e1, d, d1, d2, e2⟩ := due1 hG
      have R0 := I.2.2.1.1 0 (by omega)
      have R9 := I.2.2.1.1 9 (by omega)
      have R10 := I.2.2.1.1 10 (by omega)
      have R11 := I.2.2.1.1 11 (by omega)
      obtain ⟨w, hw, ew, -⟩ := pb_nat (n := 2000) hG.2.2.2.2.1.1 hG.2.2.2.2.1.2
      obtain ⟨pz, hp, ep, ep2⟩ := pb_nat (n := 4) (by have := hG.2.2.1.1; omega) hG.2.2.1.2
      have hp1 : 1 ≤ pz := by have := hG.2.2.1.1; omega
      by_cases m0 : f 9 = 0
      · have eC : s_X2_canStrike (r 9) (r 10) (r 11) (nI d) = 0 := by
          unfold s_X2_canStrike
          exact if_pos (R9.trans m0)
        have eB : s_X4_blowsOf_1 f (nI d) = 0 := by
          unfold s_X4_blowsOf_1
          exact if_pos m0
        simp only [s_X3_trip, s_X4_trip, if_neg t0, if_pos t1, R0, e1, e2, if_pos eC, if_pos eB]
        exact ⟨trivial, trivial, J⟩
      · have hm : ¬ r 9 = 0 := fun z => m0 (R9.symm.trans z)
        obtain ⟨b, hb1, hb2, eF, eB⟩ : ∃ b : Nat, 1 ≤ b ∧ b ≤ 4 ∧ s_X2_blowsFor (r 9) (r 10) (nI d) = nI b ∧ s_X4_blowsOf_1 f (nI d) = nI b := by
          unfold s_X2_blowsFor s_X4_blowsOf_1
          by_cases m1 : f 9 = 1
          · exact ⟨pz, hp1, hp, (if_pos (R9.trans m1)).trans (R10.trans ep), (if_neg m0).trans ((if_pos m1).trans ep)⟩
          · exact ⟨d, d1, d2, if_neg (fun z => m1 (R9.symm.trans z)), (if_neg m0).trans (if_neg m1)⟩
        have hb0 : ¬ nI b = 0 := nI_ne0 (by omega) (by omega)
        rcases Nat.lt_or_ge w b with hwb | hwb
        · have eC : s_X2_canStrike (r 9) (r 10) (r 11) (nI d) = 0 := by
            unfold s_X2_canStrike
            rw [eF]
            exact (if_neg hm).trans (if_pos (by rw [R11, ew]; exact nI_lt hwb (by omega)))
          have hle : ¬ nI b ≤ f 11 := by rw [ew]; exact nI_ge hwb (by omega)
          simp only [s_X3_trip, s_X4_trip, if_neg t0, if_pos t1, R0, e1, e2, if_pos eC, eB, if_neg hb0, if_neg hle]
          exact ⟨trivial, trivial, J⟩
        · have eC : ¬ s_X2_canStrike (r 9) (r 10) (r 11) (nI d) = 0 := by
            unfold s_X2_canStrike
            rw [eF, if_neg hm, if_neg (show ¬ r 11 < nI b by rw [R11, ew]; exact nI_nlt hwb (by omega))]
            decide
          have hle : nI b ≤ f 11 := by rw [ew]; exact nI_le hwb (by omega)
          have eV : s_X4_release_1 f (nI d) 0 = ((s_X4_strike_1 f (nI b) 0).1, (s_X4_strike_1 f (nI b) 0).2) := by
            unfold s_X4_release_1
            rw [eB, if_pos hle, if_neg hb0]
          obtain ⟨q1, q2, q3, -⟩ := rel_1 I.2.2.1 I.2.2.2.1.x (by omega) d1 d2 0
          rw [eV] at q1 q2 q3
          simp only [s_X3_trip, s_X4_trip, if_neg t0, if_pos t1, R0, e1, e2, if_neg eC, eB, if_neg hb0, if_pos hle]
          exact ⟨q1, trivial, inv_save I (Nat.le_add_right B 100) q2 (q3.mono (by omega) (by omega)).good⟩
    · simp only [s_X3_trip, s_X4_trip, if_neg t0, if_neg t1]
      exact ⟨trivial, trivial, J⟩
end PM
