/-! ===== pure rows: numbers ===== -/
theorem pb_rng (x : Int32) : -2147483648 ≤ x.toInt ∧ x.toInt < 2147483648 := by
  have h1 := Int32.le_toInt x
  have h2 := Int32.toInt_lt x
  omega
theorem pb_bmod {z : Int} (h1 : -2147483648 ≤ z) (h2 : z < 2147483648) : z.bmod (2 ^ 32) = z := by
  rw [Int.bmod_eq_of_le (by omega) (by omega)]
theorem pb_add {x y : Int32} (h1 : -2147483648 ≤ x.toInt + y.toInt) (h2 : x.toInt + y.toInt < 2147483648) : (x + y).toInt = x.toInt + y.toInt := by
  rw [Int32.toInt_add, pb_bmod h1 h2]
theorem pb_sub {x y : Int32} (h1 : -2147483648 ≤ x.toInt - y.toInt) (h2 : x.toInt - y.toInt < 2147483648) : (x - y).toInt = x.toInt - y.toInt := by
  rw [Int32.toInt_sub, pb_bmod h1 h2]
theorem pb_nat {x : Int32} {n : Nat} (h0 : 0 ≤ x.toInt) (h : x.toInt ≤ n) : ∃ k : Nat, k ≤ n ∧ x = nI k ∧ x.toInt = k := by
  obtain ⟨k, hk, e1, -, e2⟩ := cp_nat h0
  exact ⟨k, by omega, e1, e2⟩
theorem Rel.congr {r : Nat → Int32} {e : Nat → Nat → Int32} {f g : Nat → Int32} (h : Rel r e f) (hfg : ∀ j, j < 39 → f j = g j) : Rel r e g :=
  ⟨fun j hj => (h.1 j hj).trans (hfg j (by omega)), fun w i hw hi => (h.2 w i hw hi).trans (hfg _ (by omega))⟩
theorem Good.congr {B : Nat} {f g : Nat → Int32} (h : Good B f) (hfg : ∀ j, j < 39 → f j = g j) : Good B g := by
  unfold Good at h ⊢
  rw [← hfg 0 (by omega), ← hfg 5 (by omega), ← hfg 10 (by omega), ← hfg 6 (by omega), ← hfg 11 (by omega), ← hfg 8 (by omega), ← hfg 13 (by omega), ← hfg 14 (by omega)]
  exact h
theorem Inv.sc {B : Nat} {c0 : Int32} {r : Nat → Int32} {e : Nat → Nat → Int32} {sr : Nat → Nat → Int32} {se : Nat → Nat → Nat → Int32} {c1 : Int32} {f pf : Nat → Int32} (I : Inv B c0 r e sr se c1 f pf) : scOk c0 := I.2.1
theorem Inv.sn {B : Nat} {c0 : Int32} {r : Nat → Int32} {e : Nat → Nat → Int32} {sr : Nat → Nat → Int32} {se : Nat → Nat → Nat → Int32} {c1 : Int32} {f pf : Nat → Int32} (I : Inv B c0 r e sr se c1 f pf) : scOk c1 := by rw [I.1]; exact I.2.1
section PI
variable {B : Nat} {sc : Int32} {r : Nat → Int32} {e : Nat → Nat → Int32} {sr : Nat → Nat → Int32} {se : Nat → Nat → Nat → Int32} {sn : Int32} {f pf : Nat → Int32}
theorem Good.cn (h : Good B f) : cnOk (f 14) := ⟨by rw [Int32.le_iff_toInt_le]; exact h.2.2.2.2.2.2.2.1, by rw [Int32.le_iff_toInt_le]; exact h.2.2.2.2.2.2.2.2⟩
theorem Inv.cn4 (I : Inv B sc r e sr se sn f pf) : cnOk (f 14) := I.2.2.2.1.cn
theorem Inv.cn (I : Inv B sc r e sr se sn f pf) : cnOk (r 14) := by rw [I.2.2.1.1 14 (by omega)]; exact I.cn4
theorem Inv.r0 (I : Inv B sc r e sr se sn f pf) : 0 ≤ r 0 ∧ r 0 < 1440 := by
  rw [I.2.2.1.1 0 (by omega), Int32.le_iff_toInt_le, Int32.lt_iff_toInt_lt]
  exact I.2.2.2.1.1
theorem Good.min (h : Good B f) : ∃ m : Nat, m < 1440 ∧ f 0 = nI m := by
  obtain ⟨k, hk, e, e2⟩ := pb_nat (n := 1439) h.1.1 (by have := h.1.2; omega)
  exact ⟨k, by omega, e⟩
theorem Good.p0 (h : Good B f) : ∃ m : Nat, 1 ≤ m ∧ m ≤ 12 ∧ f 5 = nI m := by
  obtain ⟨k, hk, e, e2⟩ := pb_nat (n := 12) (by have := h.2.1.1; omega) h.2.1.2
  exact ⟨k, by have := h.2.1.1; omega, hk, e⟩
theorem Good.p1 (h : Good B f) : ∃ m : Nat, 1 ≤ m ∧ m ≤ 4 ∧ f 10 = nI m := by
  obtain ⟨k, hk, e, e2⟩ := pb_nat (n := 4) (by have := h.2.2.1.1; omega) h.2.2.1.2
  exact ⟨k, by have := h.2.2.1.1; omega, hk, e⟩
end PI
/-! the due numbers -/
def dueOk (last : Nat) (x : Int32) : Bool := (List.range last).any (fun k => x == nI (k + 1))
theorem dueOk_nat {last : Nat} {x : Int32} (h : dueOk last x = true) : ∃ d : Nat, 1 ≤ d ∧ d ≤ last ∧ x = nI d := by
  unfold dueOk at h
  obtain ⟨k, hk, hx⟩ := List.any_eq_true.mp h
  exact ⟨k + 1, by omega, by have := List.mem_range.mp hk; omega, by simpa using hx⟩
set_option maxRecDepth 100000 in
theorem due_all0 : ∀ m, m < 1440 → (s_X2_dueAfter 0 (nI m) = s_X4_dueAfter_0 (nI m) ∧ dueOk 12 (s_X4_dueAfter_0 (nI m)) = true) := by decide +kernel
set_option maxRecDepth 100000 in
theorem due_all1 : ∀ m, m < 1440 → (s_X2_dueAfter 1 (nI m) = s_X4_dueAfter_1 (nI m) ∧ dueOk 4 (s_X4_dueAfter_1 (nI m)) = true) := by decide +kernel
set_option maxRecDepth 100000 in
theorem lag_all0 : ∀ d, d < 13 → ∀ p, p < 13 → 1 ≤ d → 1 ≤ p → (if 0 ≤ (nI d - nI p) then (nI d - nI p) else ((nI d - nI p) + 12)) = irem ((nI d - nI p) + 12) 12 := by decide +kernel
set_option maxRecDepth 100000 in
theorem lag_all1 : ∀ d, d < 5 → ∀ p, p < 5 → 1 ≤ d → 1 ≤ p → (if 0 ≤ (nI d - nI p) then (nI d - nI p) else ((nI d - nI p) + 4)) = irem ((nI d - nI p) + 4) 4 := by decide +kernel
theorem pos_all0 : ∀ p, p < 13 → 1 ≤ p → (s_X2_positionAfter 0 (nI p) = irem (nI p) 12 + 1 ∧ dueOk 12 (s_X2_positionAfter 0 (nI p)) = true) := by decide +kernel
theorem pos_all1 : ∀ p, p < 5 → 1 ≤ p → (s_X2_positionAfter 1 (nI p) = irem (nI p) 4 + 1 ∧ dueOk 4 (s_X2_positionAfter 1 (nI p)) = true) := by decide +kernel
section PJ
variable {B : Nat} {sc : Int32} {r : Nat → Int32} {e : Nat → Nat → Int32} {sr : Nat → Nat → Int32} {se : Nat → Nat → Nat → Int32} {sn : Int32} {f pf : Nat → Int32}
theorem due0 (h : Good B f) : s_X2_dueAfter 0 (f 0) = s_X4_dueAfter_0 (f 0) ∧ ∃ d : Nat, 1 ≤ d ∧ d ≤ 12 ∧ s_X4_dueAfter_0 (f 0) = nI d := by
  obtain ⟨m, hm, e⟩ := h.min
  rw [e]
  exact ⟨(due_all0 m hm).1, dueOk_nat (due_all0 m hm).2⟩
theorem due1 (h : Good B f) : s_X2_dueAfter 1 (f 0) = s_X4_dueAfter_1 (f 0) ∧ ∃ d : Nat, 1 ≤ d ∧ d ≤ 4 ∧ s_X4_dueAfter_1 (f 0) = nI d := by
  obtain ⟨m, hm, e⟩ := h.min
  rw [e]
  exact ⟨(due_all1 m hm).1, dueOk_nat (due_all1 m hm).2⟩
theorem lag0 (h : Good B f) : s_X2_lagAt 0 (f 4) (f 5) (f 0) = s_X4_lagAt_0 f (f 0) := by
  obtain ⟨e1, d, h1, h2, e2⟩ := due0 h
  obtain ⟨p, h3, h4, e3⟩ := h.p0
  unfold s_X2_lagAt s_X4_lagAt_0
  rw [e1, e2, e3]
  by_cases hm : f 4 = 1
  · rw [if_pos hm, if_pos hm]
    exact lag_all0 d (by omega) p (by omega) h1 h3
  · rw [if_neg hm, if_neg hm]
theorem lag1 (h : Good B f) : s_X2_lagAt 1 (f 9) (f 10) (f 0) = s_X4_lagAt_1 f (f 0) := by
  obtain ⟨e1, d, h1, h2, e2⟩ := due1 h
  obtain ⟨p, h3, h4, e3⟩ := h.p1
  unfold s_X2_lagAt s_X4_lagAt_1
  rw [e1, e2, e3]
  by_cases hm : f 9 = 1
  · rw [if_pos hm, if_pos hm]
    exact lag_all1 d (by omega) p (by omega) h1 h3
  · rw [if_neg hm, if_neg hm]
theorem pq_nextDue (I : Inv B sc r e sr se sn f pf) (z : Nat → Int32) (tn : Int32) : s_X3_nextDue z r tn = s_X4_nextDue f z tn := by
  unfold s_X3_nextDue s_X4_nextDue
  rw [I.2.2.1.1 0 (by omega), (due0 I.2.2.2.1).1, (due1 I.2.2.2.1).1]
theorem pq_lag (I : Inv B sc r e sr se sn f pf) (z : Nat → Int32) (tn : Int32) : s_X3_lag z r tn = s_X4_lag f z tn := by
  unfold s_X3_lag s_X4_lag
  rw [I.2.2.1.1 0 (by omega), I.2.2.1.1 4 (by omega), I.2.2.1.1 5 (by omega), I.2.2.1.1 9 (by omega), I.2.2.1.1 10 (by omega), lag0 I.2.2.2.1, lag1 I.2.2.2.1]
theorem btc0 : ∀ (n p : Nat) (b : Int32), 1 ≤ p → p ≤ 12 → btcL 0 n (nI p) b = btcM 12 n (nI p) b
  | 0, _, _, _, _ => rfl
  | n + 1, p, b, h1, h2 => by
    unfold btcL btcM
    obtain ⟨e1, e2⟩ := pos_all0 p (by omega) h1
    obtain ⟨d, h3, h4, e3⟩ := dueOk_nat e2
    rw [← e1, e3]
    exact btc0 n d _ h3 h4
theorem btc1 : ∀ (n p : Nat) (b : Int32), 1 ≤ p → p ≤ 4 → btcL 1 n (nI p) b = btcM 4 n (nI p) b
  | 0, _, _, _, _ => rfl
  | n + 1, p, b, h1, h2 => by
    unfold btcL btcM
    obtain ⟨e1, e2⟩ := pos_all1 p (by omega) h1
    obtain ⟨d, h3, h4, e3⟩ := dueOk_nat e2
    rw [← e1, e3]
    exact btc1 n d _ h3 h4
theorem pq_blowsToCorrect (I : Inv B sc r e sr se sn f pf) (z : Nat → Int32) (tn : Int32) : s_X3_blowsToCorrect z r tn = s_X4_blowsToCorrect f z tn := by
  unfold s_X3_blowsToCorrect s_X4_blowsToCorrect
  rw [I.2.2.1.1 0 (by omega), I.2.2.1.1 4 (by omega), I.2.2.1.1 5 (by omega), I.2.2.1.1 9 (by omega), I.2.2.1.1 10 (by omega), lag0 I.2.2.2.1, lag1 I.2.2.2.1]
  obtain ⟨p, h3, h4, e3⟩ := I.2.2.2.1.p0
  obtain ⟨q, h5, h6, e5⟩ := I.2.2.2.1.p1
  rw [e3, e5, btc0 _ p 0 h3 h4, btc1 _ q 0 h5 h6]
theorem pq_minute (I : Inv B sc r e sr se sn f pf) (z : Nat → Int32) : s_X3_minute r = s_X4_minute f := I.2.2.1.1 0 (by omega)
theorem pq_position (I : Inv B sc r e sr se sn f pf) (z : Nat → Int32) (tn : Int32) : s_X3_position z r tn = s_X4_position f z tn := by
  unfold s_X3_position s_X4_position s_X4_valueOf_1
  rw [I.2.2.1.1 5 (by omega), I.2.2.1.1 10 (by omega)]
theorem pq_weight (I : Inv B sc r e sr se sn f pf) (z : Nat → Int32) (tn : Int32) : s_X3_weight z r tn = s_X4_weight f z tn := by
  unfold s_X3_weight s_X4_weight s_X4_valueOf_2
  rw [I.2.2.1.1 6 (by omega), I.2.2.1.1 11 (by omega)]
theorem pq_sounded (I : Inv B sc r e sr se sn f pf) (z : Nat → Int32) (tn : Int32) : s_X3_sounded z r tn = s_X4_sounded f z tn := by
  unfold s_X3_sounded s_X4_sounded s_X4_valueOf_3
  rw [I.2.2.1.1 7 (by omega), I.2.2.1.1 12 (by omega)]
theorem pq_missed (I : Inv B sc r e sr se sn f pf) (z : Nat → Int32) (tn : Int32) : s_X3_missed z r tn = s_X4_missed f z tn := by
  unfold s_X3_missed s_X4_missed s_X4_valueOf_4
  rw [I.2.2.1.1 8 (by omega), I.2.2.1.1 13 (by omega)]
/-! silence -/
theorem hush_eq {r f : Nat → Int32} (h1 : r 1 = f 1) (h2 : r 2 = f 2) (h3 : r 3 = f 3) (q : Int32) : s_X0_hushesAt r q = s_X4_silentAt f q := by
  unfold s_X0_hushesAt s_X4_silentAt
  rw [h1, h2, h3]
  by_cases a : f 1 = 0
  · rw [if_pos a, if_pos a]
  · rw [if_neg a, if_neg a]
    by_cases c : f 3 ≤ f 2
    · rw [if_pos c]
      by_cases d : f 2 ≤ f 3
      · have e : f 2 = f 3 := by
          rw [Int32.le_iff_toInt_le] at c d
          exact Int32.toInt_inj.mp (by omega)
        rw [if_pos d, if_pos e]
      · have e : ¬ f 2 = f 3 := fun z => d (by rw [z]; exact Int32.le_refl _)
        rw [if_neg d, if_neg e, if_pos c]
    · have e : ¬ f 2 = f 3 := fun z => c (by rw [z]; exact Int32.le_refl _)
      rw [if_neg c, if_neg e, if_neg c]
theorem pq_isSilent (I : Inv B sc r e sr se sn f pf) (z : Nat → Int32) (q : Int32) : s_X3_isSilent z r q = s_X4_isSilent f z q := by
  unfold s_X3_isSilent s_X4_isSilent
  rw [hush_eq (I.2.2.1.1 1 (by omega)) (I.2.2.1.1 2 (by omega)) (I.2.2.1.1 3 (by omega)) q]
  have h : s_X3_isMinute q = s_X4_in q 0 1439 := by
    unfold s_X3_isMinute s_X4_in
    by_cases a : q < 0
    · rw [if_pos a, if_pos a]
    · rw [if_neg a, if_neg a]
      by_cases b : 1440 ≤ q
      · have b2 : 1439 < q := by
          rw [Int32.le_iff_toInt_le, show (1440 : Int32).toInt = 1440 from rfl] at b
          rw [Int32.lt_iff_toInt_lt, show (1439 : Int32).toInt = 1439 from rfl]
          omega
        rw [if_pos b, if_pos b2]
      · have b2 : ¬ 1439 < q := by
          rw [Int32.le_iff_toInt_le, show (1440 : Int32).toInt = 1440 from rfl] at b
          rw [Int32.lt_iff_toInt_lt, show (1439 : Int32).toInt = 1439 from rfl]
          omega
        rw [if_neg b, if_neg b2]
  rw [h]
/-! the record's entries -/
theorem ent_eq (I : Inv B sc r e sr se sn f pf) (w : Nat) (hw : w < 3) {q : Int32} (h0 : 0 ≤ q) (h1 : ¬ f 14 ≤ q) : e w q.toNatClampNeg = f ((15 + (4 * q)) + nI w).toNatClampNeg := by
  obtain ⟨N, hN, eN⟩ := cnOk_nat I.cn4
  obtain ⟨j, hj, rfl⟩ := nI_of (Int32.not_lt.mpr h0)
  have h3 : ¬ N ≤ j := fun z => h1 (by rw [eN]; exact nI_le z hj)
  have e1 : (4 : Int32) * nI j = nI (4 * j) := pk_mul 4 j
  have e2 : (15 : Int32) + nI (4 * j) = nI (15 + 4 * j) := nI_add 15 (4 * j)
  rw [e1, e2, nI_add, nI_clamp (show j < 2 ^ 31 by omega), nI_clamp (show 15 + 4 * j + w < 2 ^ 31 by omega)]
  exact I.2.2.1.2 w j hw (by omega)
theorem pq_strikeMinute (I : Inv B sc r e sr se sn f pf) (z : Nat → Int32) (q : Int32) : s_X3_strikeMinute z r e q = s_X4_strikeMinute f z q := by
  unfold s_X3_strikeMinute s_X4_strikeMinute s_X4_entry_0
  rw [I.2.2.1.1 14 (by omega)]
  by_cases a : 0 ≤ q
  · rw [if_pos a, if_pos a]
    by_cases b : f 14 ≤ q
    · rw [if_pos b, if_pos b]
    · rw [if_neg b, if_neg b, ent_eq I 0 (by omega) a b]; rfl
  · rw [if_neg a, if_neg a]
theorem pq_strikeTrain (I : Inv B sc r e sr se sn f pf) (z : Nat → Int32) (q : Int32) : s_X3_strikeTrain z r e q = s_X4_strikeTrain f z q := by
  unfold s_X3_strikeTrain s_X4_strikeTrain s_X4_entry_1
  rw [I.2.2.1.1 14 (by omega)]
  by_cases a : 0 ≤ q
  · rw [if_pos a, if_pos a]
    by_cases b : f 14 ≤ q
    · rw [if_pos b, if_pos b]
    · rw [if_neg b, if_neg b, ent_eq I 1 (by omega) a b]; rfl
  · rw [if_neg a, if_neg a]
theorem pq_strikeBlows (I : Inv B sc r e sr se sn f pf) (z : Nat → Int32) (q : Int32) : s_X3_strikeBlows z r e q = s_X4_strikeBlows f z q := by
  unfold s_X3_strikeBlows s_X4_strikeBlows s_X4_entry_2
  rw [I.2.2.1.1 14 (by omega)]
  by_cases a : 0 ≤ q
  · rw [if_pos a, if_pos a]
    by_cases b : f 14 ≤ q
    · rw [if_pos b, if_pos b]
    · rw [if_neg b, if_neg b, ent_eq I 2 (by omega) a b]; rfl
  · rw [if_neg a, if_neg a]
theorem pq_errorCount (I : Inv B sc r e sr se sn f pf) (z : Nat → Int32) (q : Int32) : s_X3_errorCount z q = s_X4_errorCount z q := by
  unfold s_X3_errorCount s_X4_errorCount s_X4_in
  by_cases a : q < (-4)
  · rw [if_pos a, if_pos a, if_pos rfl]
  · rw [if_neg a, if_neg a]
    by_cases b : q ≤ (-2)
    · rw [if_pos b, if_neg (Int32.not_lt.mpr b), if_neg (by decide)]; rfl
    · rw [if_neg b, if_pos (Int32.not_le.mp b), if_pos rfl]
end PJ
