/-! ===== pure rows: positions, silence, winding, hands ===== -/
theorem isMin_eq (q : Int32) : s_X3_isMinute q = s_X4_in q 0 1439 := by
  unfold s_X3_isMinute s_X4_in
  by_cases a : q < 0
  · rw [if_pos a, if_pos a]
  · rw [if_neg a, if_neg a]
    by_cases b : 1440 ≤ q
    · have b2 : 1439 < q := by
        rw [Int32.le_iff_toInt_le, show (1440 : Int32).toInt = 1440 from rfl] at b
        rw [Int32.lt_iff_toInt_lt, show (1439 : Int32).toInt = 1439 from rfl]
        omega
      rw [if_pos b, if_pos b2]
    · have b2 : ¬ 1439 < q := by
        rw [Int32.le_iff_toInt_le, show (1440 : Int32).toInt = 1440 from rfl] at b
        rw [Int32.lt_iff_toInt_lt, show (1439 : Int32).toInt = 1439 from rfl]
        omega
      rw [if_neg b, if_neg b2]
/-- within, by whole numbers -/
theorem in_int {q lo hi : Int32} (h : ¬ s_X4_in q lo hi = 0) : lo.toInt ≤ q.toInt ∧ q.toInt ≤ hi.toInt := by
  by_cases a : q < lo
  · exact absurd (in_lo a) h
  · by_cases b : hi < q
    · exact absurd (in_hi a b) h
    · rw [Int32.lt_iff_toInt_lt] at a b
      omega
section PL
variable {B : Nat} {sc : Int32} {r : Nat → Int32} {e : Nat → Nat → Int32} {sr : Nat → Nat → Int32} {se : Nat → Nat → Nat → Int32} {sn : Int32} {f pf : Nat → Int32}
theorem pq_setPosition (I : Inv B sc r e sr se sn f pf) (z : Nat → Int32) (tn q : Int32) (sa : Nat → Nat → Nat) : (s_X3_setPosition sc z r e sa sr se tn q).1 = (s_X4_setPosition sn f pf z tn q).1 ∧ (s_X3_setPosition sc z r e sa sr se tn q).2.2.1 = (s_X4_setPosition sn f pf z tn q).2.2.2.2 ∧ Inv (B + 100) (s_X3_setPosition sc z r e sa sr se tn q).2.1 (s_X3_setPosition sc z r e sa sr se tn q).2.2.2.1 e (s_X3_setPosition sc z r e sa sr se tn q).2.2.2.2.2.1 (s_X3_setPosition sc z r e sa sr se tn q).2.2.2.2.2.2 (s_X4_setPosition sn f pf z tn q).2.1 (s_X4_setPosition sn f pf z tn q).2.2.1 (s_X4_setPosition sn f pf z tn q).2.2.2.1 := by
  have J := I.mono (Nat.le_add_right B 100)
  have hG : Good (B + 100) f := J.2.2.2.1
  have l0 : s_X2_lastPosition 0 = 12 := rfl
  have l1 : s_X2_lastPosition 1 = 4 := rfl
  by_cases t0 : tn = 0
  · skip
    by_cases a : q < 1
    · simp only [s_X3_setPosition, s_X4_setPosition, if_pos t0, if_pos a, if_pos (in_lo (hi := 12) a)]
      exact ⟨trivial, trivial, J⟩
    · by_cases b : q ≤ 12
      · have hin := in_ok a (Int32.not_lt.mpr b)
        have hr := in_int hin
        simp only [s_X3_setPosition, s_X4_setPosition, l0, l1, if_pos t0, if_neg a, if_pos b, if_neg hin]
        exact ⟨I.2.2.1.1 5 (by omega), trivial, inv_save I (Nat.le_add_right B 100) (rel_upd I.2.2.1 5 (by omega) q) ⟨hG.1, hr, hG.2.2⟩⟩
      · simp only [s_X3_setPosition, s_X4_setPosition, l0, l1, if_pos t0, if_neg a, if_neg b, if_pos (in_hi a (Int32.not_le.mp b))]
        exact ⟨trivial, trivial, J⟩
  · by_cases t1 : tn = 1
    · skip
      by_cases a : q < 1
      · simp only [s_X3_setPosition, s_X4_setPosition, if_neg t0, if_pos t1, if_pos a, if_pos (in_lo (hi := 4) a)]
        exact ⟨trivial, trivial, J⟩
      · by_cases b : q ≤ 4
        · have hin := in_ok a (Int32.not_lt.mpr b)
          have hr := in_int hin
          simp only [s_X3_setPosition, s_X4_setPosition, l0, l1, if_neg t0, if_pos t1, if_neg a, if_pos b, if_neg hin]
          exact ⟨I.2.2.1.1 10 (by omega), trivial, inv_save I (Nat.le_add_right B 100) (rel_upd I.2.2.1 10 (by omega) q) ⟨hG.1, hG.2.1, hr, hG.2.2.2⟩⟩
        · simp only [s_X3_setPosition, s_X4_setPosition, l0, l1, if_neg t0, if_pos t1, if_neg a, if_neg b, if_pos (in_hi a (Int32.not_le.mp b))]
          exact ⟨trivial, trivial, J⟩
    · simp only [s_X3_setPosition, s_X4_setPosition, if_neg t0, if_neg t1]
      exact ⟨trivial, trivial, J⟩
theorem pq_setHands (I : Inv B sc r e sr se sn f pf) (z : Nat → Int32) (q : Int32) (sa : Nat → Nat → Nat) : (s_X3_setHands sc z r e sa sr se q).1 = (s_X4_setHands sn f pf z q).1 ∧ (s_X3_setHands sc z r e sa sr se q).2.2.1 = (s_X4_setHands sn f pf z q).2.2.2.2 ∧ Inv (B + 100) (s_X3_setHands sc z r e sa sr se q).2.1 (s_X3_setHands sc z r e sa sr se q).2.2.2.1 e (s_X3_setHands sc z r e sa sr se q).2.2.2.2.2.1 (s_X3_setHands sc z r e sa sr se q).2.2.2.2.2.2 (s_X4_setHands sn f pf z q).2.1 (s_X4_setHands sn f pf z q).2.2.1 (s_X4_setHands sn f pf z q).2.2.2.1 := by
  have J := I.mono (Nat.le_add_right B 100)
  have hG : Good (B + 100) f := J.2.2.2.1
  by_cases a : s_X4_in q 0 1439 = 0
  · simp only [s_X3_setHands, s_X4_setHands, isMin_eq, if_pos a]
    exact ⟨trivial, trivial, J⟩
  · have hr := in_int a
    rw [show (0 : Int32).toInt = 0 from rfl, show (1439 : Int32).toInt = 1439 from rfl] at hr
    simp only [s_X3_setHands, s_X4_setHands, isMin_eq, if_neg a]
    exact ⟨I.2.2.1.1 0 (by omega), trivial, inv_save I (Nat.le_add_right B 100) (rel_upd I.2.2.1 0 (by omega) q) ⟨⟨hr.1, show q.toInt < 1440 by omega⟩, hG.2⟩⟩
theorem pq_setSilence (I : Inv B sc r e sr se sn f pf) (z : Nat → Int32) (q bg en : Int32) (sa : Nat → Nat → Nat) : (s_X3_setSilence sc z r e sa sr se q bg en).1 = (s_X4_setSilence sn f pf z q bg en).1 ∧ (s_X3_setSilence sc z r e sa sr se q bg en).2.2.1 = (s_X4_setSilence sn f pf z q bg en).2.2.2.2 ∧ Inv (B + 100) (s_X3_setSilence sc z r e sa sr se q bg en).2.1 (s_X3_setSilence sc z r e sa sr se q bg en).2.2.2.1 e (s_X3_setSilence sc z r e sa sr se q bg en).2.2.2.2.2.1 (s_X3_setSilence sc z r e sa sr se q bg en).2.2.2.2.2.2 (s_X4_setSilence sn f pf z q bg en).2.1 (s_X4_setSilence sn f pf z q bg en).2.2.1 (s_X4_setSilence sn f pf z q bg en).2.2.2.1 := by
  have J := I.mono (Nat.le_add_right B 100)
  have hG : Good (B + 100) f := J.2.2.2.1
  by_cases a : q < 0
  · simp only [s_X3_setSilence, s_X4_setSilence, if_pos a, if_pos (in_lo (hi := 2) a)]
    exact ⟨trivial, trivial, J⟩
  · by_cases b : 2 < q
    · simp only [s_X3_setSilence, s_X4_setSilence, if_neg a, if_pos b, if_pos (in_hi a b)]
      exact ⟨trivial, trivial, J⟩
    · have hin := in_ok a b
      by_cases c : s_X4_in bg 0 1439 = 0
      · simp only [s_X3_setSilence, s_X4_setSilence, isMin_eq, if_neg a, if_neg b, if_neg hin, if_pos c]
        exact ⟨trivial, trivial, J⟩
      · by_cases d : s_X4_in en 0 1439 = 0
        · simp only [s_X3_setSilence, s_X4_setSilence, isMin_eq, if_neg a, if_neg b, if_neg hin, if_neg c, if_pos d]
          exact ⟨trivial, trivial, J⟩
        · simp only [s_X3_setSilence, s_X4_setSilence, isMin_eq, if_neg a, if_neg b, if_neg hin, if_neg c, if_neg d]
          exact ⟨I.2.2.1.1 1 (by omega), trivial, inv_save I (Nat.le_add_right B 100) (rel_upd (rel_upd (rel_upd I.2.2.1 1 (by omega) q) 2 (by omega) bg) 3 (by omega) en) hG⟩
theorem wind_eq {w q : Int32} (h1 : 0 ≤ w.toInt) (h2 : w.toInt ≤ 2000) (h3 : 1 ≤ q.toInt) (h4 : q.toInt ≤ 2000) : (2000 - w < q ∧ ¬ (w + q ≤ 2000) ∧ w + (2000 - w) = 2000) ∨ (¬ 2000 - w < q ∧ w + q ≤ 2000 ∧ (w + q) - w = q ∧ 0 ≤ (w + q).toInt ∧ (w + q).toInt ≤ 2000) := by
  have k : (2000 : Int32).toInt = 2000 := rfl
  have e1 : (2000 - w).toInt = 2000 - w.toInt := by rw [pb_sub (by rw [k]; omega) (by rw [k]; omega), k]
  have e2 : (w + q).toInt = w.toInt + q.toInt := pb_add (by omega) (by omega)
  rw [Int32.lt_iff_toInt_lt, Int32.le_iff_toInt_le, e1, e2, k]
  by_cases hc : 2000 - w.toInt < q.toInt
  · refine Or.inl ⟨hc, by omega, Int32.toInt_inj.mp ?_⟩
    rw [pb_add (by rw [e1]; omega) (by rw [e1]; omega), e1, k]
    omega
  · refine Or.inr ⟨hc, by omega, Int32.toInt_inj.mp ?_, by omega, by omega⟩
    rw [pb_sub (by rw [e2]; omega) (by rw [e2]; omega), e2]
    omega
theorem pq_wind (I : Inv B sc r e sr se sn f pf) (z : Nat → Int32) (tn q : Int32) (sa : Nat → Nat → Nat) : (s_X3_wind sc z r e sa sr se tn q).1 = (s_X4_wind sn f pf z tn q).1 ∧ (s_X3_wind sc z r e sa sr se tn q).2.2.1 = (s_X4_wind sn f pf z tn q).2.2.2.2 ∧ Inv (B + 100) (s_X3_wind sc z r e sa sr se tn q).2.1 (s_X3_wind sc z r e sa sr se tn q).2.2.2.1 e (s_X3_wind sc z r e sa sr se tn q).2.2.2.2.2.1 (s_X3_wind sc z r e sa sr se tn q).2.2.2.2.2.2 (s_X4_wind sn f pf z tn q).2.1 (s_X4_wind sn f pf z tn q).2.2.1 (s_X4_wind sn f pf z tn q).2.2.2.1 := by
  have J := I.mono (Nat.le_add_right B 100)
  have hG : Good (B + 100) f := J.2.2.2.1
  by_cases t0 : tn = 0
  · skip
    by_cases a : q < 1
    · simp only [s_X3_wind, s_X4_wind, if_pos t0, if_pos a, if_pos (in_lo (hi := 2000) a)]
      exact ⟨trivial, trivial, J⟩
    · by_cases b : q ≤ 2000
      · have hin := in_ok a (Int32.not_lt.mpr b)
        have hr := in_int hin
        rw [show (1 : Int32).toInt = 1 from rfl, show (2000 : Int32).toInt = 2000 from rfl] at hr
        rcases wind_eq (w := f 6) hG.2.2.2.1.1 hG.2.2.2.1.2 hr.1 hr.2 with ⟨c1, c2, c3⟩ | ⟨c1, c2, c3, c4, c5⟩
        · simp only [s_X3_wind, s_X4_wind, if_pos t0, if_neg a, if_pos b, if_neg hin, I.2.2.1.1 6 (show 6 ≤ 14 by omega), if_pos c1, if_neg c2, c3]
          exact ⟨trivial, trivial, inv_save I (Nat.le_add_right B 100) (rel_upd I.2.2.1 6 (by omega) 2000) ⟨hG.1, hG.2.1, hG.2.2.1, ⟨show 0 ≤ (2000 : Int32).toInt by decide, show (2000 : Int32).toInt ≤ 2000 by decide⟩, hG.2.2.2.2⟩⟩
        · simp only [s_X3_wind, s_X4_wind, if_pos t0, if_neg a, if_pos b, if_neg hin, I.2.2.1.1 6 (show 6 ≤ 14 by omega), if_neg c1, if_pos c2, c3]
          exact ⟨trivial, trivial, inv_save I (Nat.le_add_right B 100) (rel_upd I.2.2.1 6 (by omega) _) ⟨hG.1, hG.2.1, hG.2.2.1, ⟨c4, c5⟩, hG.2.2.2.2⟩⟩
      · simp only [s_X3_wind, s_X4_wind, if_pos t0, if_neg a, if_neg b, if_pos (in_hi a (Int32.not_le.mp b))]
        exact ⟨trivial, trivial, J⟩
  · by_cases t1 : tn = 1
    · skip
      by_cases a : q < 1
      · simp only [s_X3_wind, s_X4_wind, if_neg t0, if_pos t1, if_pos a, if_pos (in_lo (hi := 2000) a)]
        exact ⟨trivial, trivial, J⟩
      · by_cases b : q ≤ 2000
        · have hin := in_ok a (Int32.not_lt.mpr b)
          have hr := in_int hin
          rw [show (1 : Int32).toInt = 1 from rfl, show (2000 : Int32).toInt = 2000 from rfl] at hr
          rcases wind_eq (w := f 11) hG.2.2.2.2.1.1 hG.2.2.2.2.1.2 hr.1 hr.2 with ⟨c1, c2, c3⟩ | ⟨c1, c2, c3, c4, c5⟩
          · simp only [s_X3_wind, s_X4_wind, if_neg t0, if_pos t1, if_neg a, if_pos b, if_neg hin, I.2.2.1.1 11 (show 11 ≤ 14 by omega), if_pos c1, if_neg c2, c3]
            exact ⟨trivial, trivial, inv_save I (Nat.le_add_right B 100) (rel_upd I.2.2.1 11 (by omega) 2000) ⟨hG.1, hG.2.1, hG.2.2.1, hG.2.2.2.1, ⟨show 0 ≤ (2000 : Int32).toInt by decide, show (2000 : Int32).toInt ≤ 2000 by decide⟩, hG.2.2.2.2.2⟩⟩
          · simp only [s_X3_wind, s_X4_wind, if_neg t0, if_pos t1, if_neg a, if_pos b, if_neg hin, I.2.2.1.1 11 (show 11 ≤ 14 by omega), if_neg c1, if_pos c2, c3]
            exact ⟨trivial, trivial, inv_save I (Nat.le_add_right B 100) (rel_upd I.2.2.1 11 (by omega) _) ⟨hG.1, hG.2.1, hG.2.2.1, hG.2.2.2.1, ⟨c4, c5⟩, hG.2.2.2.2.2⟩⟩
        · simp only [s_X3_wind, s_X4_wind, if_neg t0, if_pos t1, if_neg a, if_neg b, if_pos (in_hi a (Int32.not_le.mp b))]
          exact ⟨trivial, trivial, J⟩
    · simp only [s_X3_wind, s_X4_wind, if_neg t0, if_neg t1]
      exact ⟨trivial, trivial, J⟩
end PL
