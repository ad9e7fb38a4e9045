/-! ===== pure rows: digest, save, undo, the settings ===== -/
theorem hash_eq {fm ft fb f : Nat → Int32} (hm : ∀ i, i < 6 → fm i = f (15 + 4 * i + 0)) (ht : ∀ i, i < 6 → ft i = f (15 + 4 * i + 1)) (hb : ∀ i, i < 6 → fb i = f (15 + 4 * i + 2)) : ∀ (n i : Nat) (h : Int64), i + n ≤ 6 → hashL fm ft fb n i h = hashM f n i h
  | 0, _, _, _ => rfl
  | n + 1, i, h, hi => by
    unfold hashL hashM
    rw [hm i (by omega), ht i (by omega), hb i (by omega)]
    exact hash_eq hm ht hb n (i + 1) _ (by omega)
section PK
variable {B : Nat} {sc : Int32} {r : Nat → Int32} {e : Nat → Nat → Int32} {sr : Nat → Nat → Int32} {se : Nat → Nat → Nat → Int32} {sn : Int32} {f pf : Nat → Int32}
theorem pq_digest (I : Inv B sc r e sr se sn f pf) (z : Nat → Int32) : s_X3_digest sc z r e = (s_X4_digest sn f z).1 := by
  obtain ⟨N, hN, eN⟩ := cnOk_nat I.cn4
  have R := I.2.2.1
  unfold s_X3_digest s_X4_digest s_X0_addToHash s_X1_addToHash s_X2_addToHash
  rw [R.1 0 (by omega), R.1 1 (by omega), R.1 2 (by omega), R.1 3 (by omega), R.1 4 (by omega), R.1 5 (by omega), R.1 6 (by omega), R.1 7 (by omega), R.1 8 (by omega), R.1 9 (by omega), R.1 10 (by omega), R.1 11 (by omega), R.1 12 (by omega), R.1 13 (by omega), R.1 14 (by omega), lag0 I.2.2.2.1, lag1 I.2.2.2.1, (due0 I.2.2.2.1).1, (due1 I.2.2.2.1).1]
  rw [hash_eq (f := f) (fun i hi => R.2 0 i (by omega) hi) (fun i hi => R.2 1 i (by omega) hi) (fun i hi => R.2 2 i (by omega) hi) _ 0 _ (by rw [eN, nI_clamp (by omega)]; omega), I.1]
/-- a saved state more -/
theorem inv_save {C : Nat} (I : Inv B sc r e sr se sn f pf) (hBC : B ≤ C) {r' f' : Nat → Int32} {e' : Nat → Nat → Int32} (hR : Rel r' e' f') (hG : Good C f') : Inv C (sSc sc) r' e' (sSr sc sr r) (sSe sc se e) (sSc sn) f' (mSp sn pf f) := by
  obtain ⟨h1, h2, h3, h4, h5⟩ := I
  subst h1
  have low : ∀ k : Nat, k < 5 → (∀ i, i < k → Rel (sr i) (se i) (fun j => pf (39 * i + j)) ∧ Good B (fun j => pf (39 * i + j))) → ∀ i, i < k + 1 → Rel (va_up sr k r i) (va_up se k e i) (fun j => va_cpy f pf 0 (39 * k) 39 (39 * i + j)) ∧ Good C (fun j => va_cpy f pf 0 (39 * k) 39 (39 * i + j)) := by
    intro k hk h i hi
    by_cases hik : i = k
    · subst hik
      have ec : ∀ j, j < 39 → f j = va_cpy f pf 0 (39 * i) 39 (39 * i + j) := fun j hj => by
        rw [pk_cpy_in (by omega) (by omega), show 0 + (39 * i + j - 39 * i) = j by omega]
      have e1 : va_up sr i r i = r := by simp [va_up]
      have e2 : va_up se i e i = e := by simp [va_up]
      rw [e1, e2]
      exact ⟨h3.congr ec, (h4.mono hBC).congr ec⟩
    · have ec : ∀ j, j < 39 → pf (39 * i + j) = va_cpy f pf 0 (39 * k) 39 (39 * i + j) := fun j hj => by
        rw [pk_cpy_out (by omega)]
      have e1 : va_up sr k r i = sr i := by simp [va_up, hik]
      have e2 : va_up se k e i = se i := by simp [va_up, hik]
      rw [e1, e2]
      have hh := h i (by omega)
      exact ⟨hh.1.congr ec, (hh.2.mono hBC).congr ec⟩
  rcases scOk_cases h2 with rfl | rfl | rfl | rfl | rfl | rfl
  · exact ⟨rfl, by unfold scOk; decide, hR, hG, low 0 (by omega) h5⟩
  · exact ⟨rfl, by unfold scOk; decide, hR, hG, low 1 (by omega) h5⟩
  · exact ⟨rfl, by unfold scOk; decide, hR, hG, low 2 (by omega) h5⟩
  · exact ⟨rfl, by unfold scOk; decide, hR, hG, low 3 (by omega) h5⟩
  · exact ⟨rfl, by unfold scOk; decide, hR, hG, low 4 (by omega) h5⟩
  · refine ⟨rfl, by unfold scOk; decide, hR, hG, ?_⟩
    have key : ∀ i, i < 5 → Rel (va_up (rot sr) 4 r i) (va_up (rot se) 4 e i) (fun j => va_cpy f (va_cpy pf pf 39 0 156) 0 156 39 (39 * i + j)) ∧ Good C (fun j => va_cpy f (va_cpy pf pf 39 0 156) 0 156 39 (39 * i + j)) := by
      intro i hi
      by_cases hik : i = 4
      · subst hik
        have ec : ∀ j, j < 39 → f j = va_cpy f (va_cpy pf pf 39 0 156) 0 156 39 (39 * 4 + j) := fun j hj => by
          rw [pk_cpy_in (by omega) (by omega), show 0 + (39 * 4 + j - 156) = j by omega]
        have e1 : va_up (rot sr) 4 r 4 = r := by simp [va_up]
        have e2 : va_up (rot se) 4 e 4 = e := by simp [va_up]
        rw [e1, e2]
        exact ⟨h3.congr ec, (h4.mono hBC).congr ec⟩
      · have ec : ∀ j, j < 39 → pf (39 * (i + 1) + j) = va_cpy f (va_cpy pf pf 39 0 156) 0 156 39 (39 * i + j) := fun j hj => by
          rw [pk_cpy_out (by omega), pk_cpy_in (by omega) (by omega)]
          congr 1
          omega
        have e1 : va_up (rot sr) 4 r i = sr (i + 1) := by simp [va_up, rot, hik]
        have e2 : va_up (rot se) 4 e i = se (i + 1) := by simp [va_up, rot, hik]
        rw [e1, e2]
        have hh := h5 (i + 1) (show i + 1 < 5 by omega)
        exact ⟨hh.1.congr ec, (hh.2.mono hBC).congr ec⟩
    exact key
theorem pq_undo (I : Inv B sc r e sr se sn f pf) (z : Nat → Int32) (sa : Nat → Nat → Nat) : uRet sc = uRet sn ∧ uZ sc z = uZ sn z ∧ Inv (B + 100) (uSc sc) (uR sc sr r) (uE sc se e) sr se (uSc sn) (mUf sn pf f) pf := by
  have J := I.mono (Nat.le_add_right B 100)
  obtain ⟨h1, h2, h3, h4, h5⟩ := J
  subst h1
  refine ⟨rfl, rfl, ?_⟩
  have low : ∀ k : Nat, (∀ i, i < k + 1 → Rel (sr i) (se i) (fun j => pf (39 * i + j)) ∧ Good (B + 100) (fun j => pf (39 * i + j))) → Rel (sr k) (se k) (va_cpy pf f (39 * k) 0 39) ∧ Good (B + 100) (va_cpy pf f (39 * k) 0 39) ∧ ∀ i, i < k → Rel (sr i) (se i) (fun j => pf (39 * i + j)) ∧ Good (B + 100) (fun j => pf (39 * i + j)) := by
    intro k h
    have ec : ∀ j, j < 39 → pf (39 * k + j) = va_cpy pf f (39 * k) 0 39 j := fun j hj => by
      rw [pk_cpy_in (by omega) (by omega), show j - 0 = j by omega]
    have hh := h k (by omega)
    exact ⟨hh.1.congr ec, hh.2.congr ec, fun i hi => h i (by omega)⟩
  rcases scOk_cases h2 with rfl | rfl | rfl | rfl | rfl | rfl
  · exact ⟨rfl, by unfold scOk; decide, h3, h4, h5⟩
  · have q := low 0 h5; exact ⟨rfl, by unfold scOk; decide, q.1, q.2.1, q.2.2⟩
  · have q := low 1 h5; exact ⟨rfl, by unfold scOk; decide, q.1, q.2.1, q.2.2⟩
  · have q := low 2 h5; exact ⟨rfl, by unfold scOk; decide, q.1, q.2.1, q.2.2⟩
  · have q := low 3 h5; exact ⟨rfl, by unfold scOk; decide, q.1, q.2.1, q.2.2⟩
  · have q := low 4 h5; exact ⟨rfl, by unfold scOk; decide, q.1, q.2.1, q.2.2⟩
/-- a number set on both sides -/
theorem rel_upd {r f : Nat → Int32} {e : Nat → Nat → Int32} (h : Rel r e f) (k : Nat) (hk : k ≤ 14) (v : Int32) : Rel (upd r k v) e (upd f k v) := by
  refine ⟨fun j hj => ?_, fun w i hw hi => ?_⟩
  · unfold upd
    by_cases hjk : j = k
    · rw [if_pos hjk, if_pos hjk]
    · rw [if_neg hjk, if_neg hjk]; exact h.1 j hj
  · unfold upd
    rw [if_neg (by omega)]
    exact h.2 w i hw hi
theorem in_lo {q lo hi : Int32} (h : q < lo) : s_X4_in q lo hi = 0 := by unfold s_X4_in; rw [if_pos h]
theorem in_hi {q lo hi : Int32} (h0 : ¬ q < lo) (h : hi < q) : s_X4_in q lo hi = 0 := by unfold s_X4_in; rw [if_neg h0, if_pos h]
theorem in_ok {q lo hi : Int32} (h0 : ¬ q < lo) (h : ¬ hi < q) : ¬ s_X4_in q lo hi = 0 := by unfold s_X4_in; rw [if_neg h0, if_neg h]; decide
theorem pq_setMechanism (I : Inv B sc r e sr se sn f pf) (z : Nat → Int32) (tn q : Int32) (sa : Nat → Nat → Nat) : (s_X3_setMechanism sc z r e sa sr se tn q).1 = (s_X4_setMechanism sn f pf z tn q).1 ∧ (s_X3_setMechanism sc z r e sa sr se tn q).2.2.1 = (s_X4_setMechanism sn f pf z tn q).2.2.2.2 ∧ Inv (B + 100) (s_X3_setMechanism sc z r e sa sr se tn q).2.1 (s_X3_setMechanism sc z r e sa sr se tn q).2.2.2.1 e (s_X3_setMechanism sc z r e sa sr se tn q).2.2.2.2.2.1 (s_X3_setMechanism sc z r e sa sr se tn q).2.2.2.2.2.2 (s_X4_setMechanism sn f pf z tn q).2.1 (s_X4_setMechanism sn f pf z tn q).2.2.1 (s_X4_setMechanism sn f pf z tn q).2.2.2.1 := by
  have J := I.mono (Nat.le_add_right B 100)
  have hG : Good (B + 100) f := J.2.2.2.1
  by_cases t0 : tn = 0
  · by_cases a : q < 0
    · simp only [s_X3_setMechanism, s_X4_setMechanism, if_pos t0, if_pos a, if_pos (in_lo (hi := 2) a)]
      exact ⟨trivial, trivial, J⟩
    · by_cases b : q ≤ 2
      · simp only [s_X3_setMechanism, s_X4_setMechanism, if_pos t0, if_neg a, if_pos b, if_neg (in_ok a (Int32.not_lt.mpr b))]
        exact ⟨I.2.2.1.1 4 (by omega), trivial, inv_save I (Nat.le_add_right B 100) (rel_upd I.2.2.1 4 (by omega) q) hG⟩
      · simp only [s_X3_setMechanism, s_X4_setMechanism, if_pos t0, if_neg a, if_neg b, if_pos (in_hi a (Int32.not_le.mp b))]
        exact ⟨trivial, trivial, J⟩
  · by_cases t1 : tn = 1
    · by_cases a : q < 0
      · simp only [s_X3_setMechanism, s_X4_setMechanism, if_neg t0, if_pos t1, if_pos a, if_pos (in_lo (hi := 2) a)]
        exact ⟨trivial, trivial, J⟩
      · by_cases b : q ≤ 2
        · simp only [s_X3_setMechanism, s_X4_setMechanism, if_neg t0, if_pos t1, if_neg a, if_pos b, if_neg (in_ok a (Int32.not_lt.mpr b))]
          exact ⟨I.2.2.1.1 9 (by omega), trivial, inv_save I (Nat.le_add_right B 100) (rel_upd I.2.2.1 9 (by omega) q) hG⟩
        · simp only [s_X3_setMechanism, s_X4_setMechanism, if_neg t0, if_pos t1, if_neg a, if_neg b, if_pos (in_hi a (Int32.not_le.mp b))]
          exact ⟨trivial, trivial, J⟩
    · simp only [s_X3_setMechanism, s_X4_setMechanism, if_neg t0, if_neg t1]
      exact ⟨trivial, trivial, J⟩
end PK
