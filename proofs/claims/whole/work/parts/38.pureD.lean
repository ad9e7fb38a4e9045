theorem all15 {P : Nat → Prop} (h0 : P 0) (h1 : P 1) (h2 : P 2) (h3 : P 3) (h4 : P 4) (h5 : P 5) (h6 : P 6) (h7 : P 7) (h8 : P 8) (h9 : P 9) (h10 : P 10) (h11 : P 11) (h12 : P 12) (h13 : P 13) (h14 : P 14) : ∀ i, i ≤ 14 → P i := by
  intro i hi
  match i, hi with
  | 0, _ => exact h0
  | 1, _ => exact h1
  | 2, _ => exact h2
  | 3, _ => exact h3
  | 4, _ => exact h4
  | 5, _ => exact h5
  | 6, _ => exact h6
  | 7, _ => exact h7
  | 8, _ => exact h8
  | 9, _ => exact h9
  | 10, _ => exact h10
  | 11, _ => exact h11
  | 12, _ => exact h12
  | 13, _ => exact h13
  | 14, _ => exact h14
  | n + 15, h => exact absurd h (by omega)
/-! ===== pure rows: a strike ===== -/
def GoodX (C E : Nat) (f : Nat → Int32) : Prop := (0 ≤ (f 0).toInt ∧ (f 0).toInt < 1440) ∧ (1 ≤ (f 5).toInt ∧ (f 5).toInt ≤ 12) ∧ (1 ≤ (f 10).toInt ∧ (f 10).toInt ≤ 4) ∧ (0 ≤ (f 6).toInt ∧ (f 6).toInt ≤ 2000) ∧ (0 ≤ (f 11).toInt ∧ (f 11).toInt ≤ 2000) ∧ (0 ≤ (f 8).toInt ∧ (f 8).toInt ≤ C) ∧ (0 ≤ (f 13).toInt ∧ (f 13).toInt ≤ E) ∧ (0 ≤ (f 14).toInt ∧ (f 14).toInt ≤ 6)
theorem Good.x {B : Nat} {f : Nat → Int32} (h : Good B f) : GoodX B B f := h
theorem GoodX.good {B : Nat} {f : Nat → Int32} (h : GoodX B B f) : Good B f := h
theorem GoodX.mono {B C D E : Nat} {f : Nat → Int32} (h : GoodX B C f) (h1 : B ≤ D) (h2 : C ≤ E) : GoodX D E f := by
  obtain ⟨g1, g2, g3, g4, g5, g6, g7, g8⟩ := h
  exact ⟨g1, g2, g3, g4, g5, ⟨g6.1, by omega⟩, ⟨g7.1, by omega⟩, g8⟩
theorem rel_r {r r2 f : Nat → Int32} {e : Nat → Nat → Int32} (h : Rel r2 e f) (hr : ∀ j, j ≤ 14 → r j = r2 j) : Rel r e f := ⟨fun j hj => (hr j hj).trans (h.1 j hj), h.2⟩
theorem rec_lo (g : Nat → Int32) (tr bl : Int32) {j : Nat} (hj : j ≤ 13) : s_X4_record g tr bl j = g j := by
  have h : ∀ cn, recF g tr bl cn j = g j := by
    intro cn
    unfold recF
    rw [if_neg (by omega), if_neg (by omega), if_neg (by omega), if_neg (by omega), if_neg (by omega)]
  unfold s_X4_record
  by_cases a : 6 ≤ g 14
  · rw [if_pos a]; exact h _
  · rw [if_neg a]; exact h _
theorem rec_hi (g : Nat → Int32) (tr bl : Int32) {j : Nat} (hj : 19 ≤ j) : s_X4_record g tr bl j = g (j - 4) := by
  have h : ∀ cn, recF g tr bl cn j = g (j - 4) := by
    intro cn
    unfold recF
    rw [if_neg (by omega), if_neg (by omega), if_neg (by omega), if_neg (by omega), if_pos hj]
  unfold s_X4_record
  by_cases a : 6 ≤ g 14
  · rw [if_pos a]; exact h _
  · rw [if_neg a]; exact h _
theorem rec_mid (g : Nat → Int32) (tr bl : Int32) : s_X4_record g tr bl 15 = g 0 ∧ s_X4_record g tr bl 16 = tr ∧ s_X4_record g tr bl 17 = bl := by
  unfold s_X4_record
  by_cases a : 6 ≤ g 14
  · rw [if_pos a]; exact ⟨rfl, rfl, rfl⟩
  · rw [if_neg a]; exact ⟨rfl, rfl, rfl⟩
theorem rec_14 (g : Nat → Int32) (tr bl : Int32) : s_X4_record g tr bl 14 = if 6 ≤ g 14 then g 14 + 0 else g 14 + 1 := by
  unfold s_X4_record
  by_cases a : 6 ≤ g 14
  · rw [if_pos a, if_pos a]; rfl
  · rw [if_neg a, if_neg a]; rfl
theorem cnt_all : ∀ N, N < 7 → ((if 6 < nI N + 1 then 6 else nI N + 1) = (if 6 ≤ nI N then nI N + 0 else nI N + 1) ∧ 0 ≤ (if 6 ≤ nI N then nI N + 0 else nI N + 1).toInt ∧ (if 6 ≤ nI N then nI N + 0 else nI N + 1).toInt ≤ 6) := by decide +kernel
theorem rel_rec {r g : Nat → Int32} {e : Nat → Nat → Int32} (h : Rel r e g) (hc : cnOk (g 14)) (tr bl : Int32) : Rel (upd r 14 (if 6 < r 14 + 1 then 6 else r 14 + 1)) (e3 (shf (r 0) (e 0)) (shf tr (e 1)) (shf bl (e 2))) (s_X4_record g tr bl) := by
  refine ⟨fun j hj => ?_, fun w i hw hi => ?_⟩
  · by_cases h14 : j = 14
    · subst h14
      obtain ⟨N, hN, eN⟩ := cnOk_nat hc
      have e1 : upd r 14 (if 6 < r 14 + 1 then 6 else r 14 + 1) 14 = (if 6 < r 14 + 1 then 6 else r 14 + 1) := rfl
      rw [e1, rec_14, h.1 14 (by omega), eN]
      exact (cnt_all N (by omega)).1
    · rw [rec_lo g tr bl (show j ≤ 13 by omega)]
      unfold upd
      rw [if_neg h14]
      exact h.1 j hj
  · by_cases hi0 : i = 0
    · subst hi0
      obtain ⟨m1, m2, m3⟩ := rec_mid g tr bl
      rcases (show w = 0 ∨ w = 1 ∨ w = 2 by omega) with rfl | rfl | rfl
      · exact (h.1 0 (by omega)).trans m1.symm
      · exact m2.symm
      · exact m3.symm
    · rw [rec_hi g tr bl (show 19 ≤ 15 + 4 * i + w by omega), show 15 + 4 * i + w - 4 = 15 + 4 * (i - 1) + w by omega, ← h.2 w (i - 1) hw (by omega)]
      rcases (show w = 0 ∨ w = 1 ∨ w = 2 by omega) with rfl | rfl | rfl
      · show shf (r 0) (e 0) i = e 0 (i - 1)
        unfold shf; rw [if_neg hi0]
      · show shf tr (e 1) i = e 1 (i - 1)
        unfold shf; rw [if_neg hi0]
      · show shf bl (e 2) i = e 2 (i - 1)
        unfold shf; rw [if_neg hi0]
theorem good_rec {C E : Nat} {g : Nat → Int32} (h : GoodX C E g) (tr bl : Int32) : GoodX C E (s_X4_record g tr bl) := by
  have hc : cnOk (g 14) := ⟨by rw [Int32.le_iff_toInt_le]; exact h.2.2.2.2.2.2.2.1, by rw [Int32.le_iff_toInt_le]; exact h.2.2.2.2.2.2.2.2⟩
  obtain ⟨N, hN, eN⟩ := cnOk_nat hc
  have e14 := rec_14 g tr bl
  rw [eN] at e14
  have k := cnt_all N (by omega)
  rw [← e14] at k
  unfold GoodX
  rw [rec_lo g tr bl (show 0 ≤ 13 by omega), rec_lo g tr bl (show 5 ≤ 13 by omega), rec_lo g tr bl (show 10 ≤ 13 by omega), rec_lo g tr bl (show 6 ≤ 13 by omega), rec_lo g tr bl (show 11 ≤ 13 by omega), rec_lo g tr bl (show 8 ≤ 13 by omega), rec_lo g tr bl (show 13 ≤ 13 by omega)]
  obtain ⟨g1, g2, g3, g4, g5, g6, g7, g8⟩ := h
  exact ⟨g1, g2, g3, g4, g5, g6, g7, k.2⟩
theorem sub_nI {w b : Nat} (h : b ≤ w) (hw : w ≤ 2000) : nI w - nI b = nI (w - b) ∧ (nI w - nI b).toInt = ((w - b : Nat) : Int) := by
  have e : nI w - nI b = nI (w - b) := pk_sub h
  exact ⟨e, by rw [e, nI_toInt (by omega)]⟩
set_option maxHeartbeats 1000000 in
theorem rel_0 {C E : Nat} {r f : Nat → Int32} {e : Nat → Nat → Int32} (hR : Rel r e f) (hG : GoodX C E f) (hC : C ≤ 1000000) {d : Nat} (hd1 : 1 ≤ d) (hd2 : d ≤ 12) (lf : Int32) : (s_X3_release_h r e (nI d) lf).1 = (s_X4_release_0 f (nI d) lf).1 ∧ Rel (s_X3_release_h r e (nI d) lf).2.1 (s_X3_release_h r e (nI d) lf).2.2 (s_X4_release_0 f (nI d) lf).2 ∧ GoodX (C + 1) E (s_X4_release_0 f (nI d) lf).2 ∧ ((s_X4_release_0 f (nI d) lf).2 0 = f 0 ∧ (s_X4_release_0 f (nI d) lf).2 1 = f 1 ∧ (s_X4_release_0 f (nI d) lf).2 2 = f 2 ∧ (s_X4_release_0 f (nI d) lf).2 3 = f 3) := by
  have R4 := hR.1 4 (by omega)
  have R5 := hR.1 5 (by omega)
  have R6 := hR.1 6 (by omega)
  have R7 := hR.1 7 (by omega)
  have R8 := hR.1 8 (by omega)
  have hcn : cnOk (f 14) := ⟨by rw [Int32.le_iff_toInt_le]; exact hG.2.2.2.2.2.2.2.1, by rw [Int32.le_iff_toInt_le]; exact hG.2.2.2.2.2.2.2.2⟩
  obtain ⟨w, hw, ew, -⟩ := pb_nat (n := 2000) hG.2.2.2.1.1 hG.2.2.2.1.2
  obtain ⟨pz, hp, ep, ep2⟩ := pb_nat (n := 12) (by have := hG.2.1.1; omega) hG.2.1.2
  have hp1 : 1 ≤ pz := by have := hG.2.1.1; omega
  by_cases m0 : f 4 = 0
  · have eW : s_X2_releaseWith 0 (r 4) (r 5) (r 6) (r 8) (nI d) = (0, r 5, r 6, r 8) := by
      unfold s_X2_releaseWith
      exact if_pos (R4.trans m0)
    have eX : (s_X3_release_h r e (nI d) lf) = (0, upd (upd (upd r 5 (r 5)) 6 (r 6)) 8 (r 8), e) := by
      unfold s_X3_release_h
      rw [eW]
      exact if_pos rfl
    have eB : s_X4_blowsOf_0 f (nI d) = 0 := by
      unfold s_X4_blowsOf_0
      exact if_pos m0
    have eV : (s_X4_release_0 f (nI d) lf) = (0, f) := by
      unfold s_X4_release_0
      rw [eB, if_pos (show (0 : Int32) ≤ f 6 by rw [ew]; exact nI_pos' (by omega)), if_pos rfl]
    rw [eX, eV]
    exact ⟨rfl, rel_r hR (all15 rfl rfl rfl rfl rfl rfl rfl rfl rfl rfl rfl rfl rfl rfl rfl), hG.mono (by omega) (by omega), rfl, rfl, rfl, rfl⟩
  · have hm : ¬ r 4 = 0 := fun z => m0 (R4.symm.trans z)
    obtain ⟨b, hb1, hb2, eF, eB⟩ : ∃ b : Nat, 1 ≤ b ∧ b ≤ 12 ∧ s_X2_blowsFor (r 4) (r 5) (nI d) = nI b ∧ s_X4_blowsOf_0 f (nI d) = nI b := by
      unfold s_X2_blowsFor s_X4_blowsOf_0
      by_cases m1 : f 4 = 1
      · exact ⟨pz, hp1, hp, (if_pos (R4.trans m1)).trans (R5.trans ep), (if_neg m0).trans ((if_pos m1).trans ep)⟩
      · exact ⟨d, hd1, hd2, if_neg (fun z => m1 (R4.symm.trans z)), (if_neg m0).trans (if_neg m1)⟩
    have hb0 : ¬ nI b = 0 := nI_ne0 (by omega) (by omega)
    rcases Nat.lt_or_ge w b with hwb | hwb
    · have eC : s_X2_canStrike (r 4) (r 5) (r 6) (nI d) = 0 := by
        unfold s_X2_canStrike
        rw [eF]
        exact (if_neg hm).trans (if_pos (by rw [R6, ew]; exact nI_lt hwb (by omega)))
      have eW : s_X2_releaseWith 0 (r 4) (r 5) (r 6) (r 8) (nI d) = (0, r 5, r 6, r 8 + 1) := by
        unfold s_X2_releaseWith
        rw [eC]
        exact (if_neg hm).trans (if_pos rfl)
      have eX : (s_X3_release_h r e (nI d) lf) = (0, upd (upd (upd r 5 (r 5)) 6 (r 6)) 8 (r 8 + 1), e) := by
        unfold s_X3_release_h
        rw [eW]
        exact if_pos rfl
      have eV : (s_X4_release_0 f (nI d) lf) = (0, upd f 8 (f 8 + 1)) := by
        unfold s_X4_release_0
        rw [eB, if_neg (show ¬ nI b ≤ f 6 by rw [ew]; exact nI_ge hwb (by omega))]
      have e8 : (f 8 + 1).toInt = (f 8).toInt + 1 := by
        have h1 := hG.2.2.2.2.2.1.1
        have h2 := hG.2.2.2.2.2.1.2
        rw [pb_add (by rw [show (1 : Int32).toInt = 1 from rfl]; omega) (by rw [show (1 : Int32).toInt = 1 from rfl]; omega), show (1 : Int32).toInt = 1 from rfl]
      have h81 := hG.2.2.2.2.2.1.1
      have h82 := hG.2.2.2.2.2.1.2
      rw [eX, eV]
      refine ⟨rfl, ?_, ⟨hG.1, hG.2.1, hG.2.2.1, hG.2.2.2.1, hG.2.2.2.2.1, ⟨(show 0 ≤ (f 8 + 1).toInt by rw [e8]; omega), (show (f 8 + 1).toInt ≤ ((C + 1 : Nat) : Int) by rw [e8]; omega)⟩, hG.2.2.2.2.2.2⟩, rfl, rfl, rfl, rfl⟩
      rw [R8]
      exact rel_r (rel_upd hR 8 (by omega) (f 8 + 1)) (all15 rfl rfl rfl rfl rfl rfl rfl rfl rfl rfl rfl rfl rfl rfl rfl)
    · have eC : ¬ s_X2_canStrike (r 4) (r 5) (r 6) (nI d) = 0 := by
        unfold s_X2_canStrike
        rw [eF, if_neg hm, if_neg (show ¬ r 6 < nI b by rw [R6, ew]; exact nI_nlt hwb (by omega))]
        decide
      have hle : nI b ≤ f 6 := by rw [ew]; exact nI_le hwb (by omega)
      by_cases m1 : f 4 = 1
      · have eP : s_X2_positionAfter 0 (r 5) = irem (f 5) 12 + 1 := by
          rw [R5, ep]
          exact (pos_all0 pz (by omega) hp1).1
        have hpr : 1 ≤ (irem (f 5) 12 + 1).toInt ∧ (irem (f 5) 12 + 1).toInt ≤ 12 := by
          rw [← eP, R5, ep]
          obtain ⟨dd, g1, g2, g3⟩ := dueOk_nat (pos_all0 pz (by omega) hp1).2
          rw [g3, nI_toInt (by omega)]
          omega
        have eW : s_X2_releaseWith 0 (r 4) (r 5) (r 6) (r 8) (nI d) = (nI b, s_X2_positionAfter 0 (r 5), r 6 - nI b, r 8) := by
          unfold s_X2_releaseWith
          rw [eF]
          exact (if_neg hm).trans ((if_neg eC).trans (if_pos (R4.trans m1)))
        by_cases l0 : lf = 0
        · skip
          have eX : (s_X3_release_h r e (nI d) lf) = (nI b, (upd (upd (upd (upd (upd r 5 (s_X2_positionAfter 0 (r 5))) 6 (r 6 - nI b)) 7 (r 7 + nI b)) 8 (r 8)) 14 (if 6 < r 14 + 1 then 6 else r 14 + 1)), (e3 (shf (r 0) (e 0)) (shf 0 (e 1)) (shf (nI b) (e 2)))) := by
            unfold s_X3_release_h
            rw [eW]
            exact (if_neg hb0).trans (if_pos l0)
          have eS : s_X4_strike_0 f (nI b) lf = (nI b, upd (s_X4_record (upd (upd f 6 (f 6 - nI b)) 5 (irem (f 5) 12 + 1)) 0 (nI b)) 7 ((s_X4_record (upd (upd f 6 (f 6 - nI b)) 5 (irem (f 5) 12 + 1)) 0 (nI b)) 7 + nI b)) := by
            unfold s_X4_strike_0
            rw [if_pos m1, if_pos l0]
          have eV : (s_X4_release_0 f (nI d) lf) = (nI b, upd (s_X4_record (upd (upd f 6 (f 6 - nI b)) 5 (irem (f 5) 12 + 1)) 0 (nI b)) 7 ((s_X4_record (upd (upd f 6 (f 6 - nI b)) 5 (irem (f 5) 12 + 1)) 0 (nI b)) 7 + nI b)) := by
            unfold s_X4_release_0
            rw [eB, if_pos hle, if_neg hb0, eS]
          rw [eX, eV]
          have hRg : Rel (upd (upd r 6 (r 6 - nI b)) 5 (s_X2_positionAfter 0 (r 5))) e (upd (upd f 6 (f 6 - nI b)) 5 (irem (f 5) 12 + 1)) := by
            rw [R6, eP]
            exact rel_upd (rel_upd hR 6 (by omega) _) 5 (by omega) _
          have hGg : GoodX C E (upd (upd f 6 (f 6 - nI b)) 5 (irem (f 5) 12 + 1)) := ⟨hG.1, ⟨by rw [show (upd (upd f 6 (f 6 - nI b)) 5 (irem (f 5) 12 + 1)) 5 = (irem (f 5) 12 + 1) from rfl]; exact hpr.1, by rw [show (upd (upd f 6 (f 6 - nI b)) 5 (irem (f 5) 12 + 1)) 5 = (irem (f 5) 12 + 1) from rfl]; exact hpr.2⟩, hG.2.2.1, ⟨by rw [show (upd (upd f 6 (f 6 - nI b)) 5 (irem (f 5) 12 + 1)) 6 = f 6 - nI b from rfl, ew, (sub_nI hwb hw).2]; omega, by rw [show (upd (upd f 6 (f 6 - nI b)) 5 (irem (f 5) 12 + 1)) 6 = f 6 - nI b from rfl, ew, (sub_nI hwb hw).2]; omega⟩, hG.2.2.2.2⟩
          have hR2 := rel_rec hRg (show cnOk ((upd (upd f 6 (f 6 - nI b)) 5 (irem (f 5) 12 + 1)) 14) from hcn) 0 (nI b)
          have e7 : (s_X4_record (upd (upd f 6 (f 6 - nI b)) 5 (irem (f 5) 12 + 1)) 0 (nI b)) 7 = f 7 := rec_lo (upd (upd f 6 (f 6 - nI b)) 5 (irem (f 5) 12 + 1)) 0 (nI b) (by omega)
          refine ⟨rfl, ?_, (good_rec hGg 0 (nI b)).mono (by omega) (by omega), ?_⟩
          · rw [e7]
            have hR3 := rel_upd hR2 7 (by omega) (f 7 + nI b)
            refine rel_r hR3 (all15 rfl rfl rfl rfl rfl rfl rfl (by show r 7 + nI b = f 7 + nI b; rw [R7]) rfl rfl rfl rfl rfl rfl rfl)
          · exact ⟨rec_lo (upd (upd f 6 (f 6 - nI b)) 5 (irem (f 5) 12 + 1)) 0 (nI b) (show 0 ≤ 13 by omega), rec_lo (upd (upd f 6 (f 6 - nI b)) 5 (irem (f 5) 12 + 1)) 0 (nI b) (show 1 ≤ 13 by omega), rec_lo (upd (upd f 6 (f 6 - nI b)) 5 (irem (f 5) 12 + 1)) 0 (nI b) (show 2 ≤ 13 by omega), rec_lo (upd (upd f 6 (f 6 - nI b)) 5 (irem (f 5) 12 + 1)) 0 (nI b) (show 3 ≤ 13 by omega)⟩
        · skip
          have eX : (s_X3_release_h r e (nI d) lf) = (0, (upd (upd (upd (upd r 5 (s_X2_positionAfter 0 (r 5))) 6 (r 6 - nI b)) 8 (r 8)) 14 (if 6 < r 14 + 1 then 6 else r 14 + 1)), (e3 (shf (r 0) (e 0)) (shf 0 (e 1)) (shf (-nI b) (e 2)))) := by
            unfold s_X3_release_h
            rw [eW]
            exact (if_neg hb0).trans (if_neg l0)
          have eS : s_X4_strike_0 f (nI b) lf = (0, upd (s_X4_record (upd (upd f 6 (f 6 - nI b)) 5 (irem (f 5) 12 + 1)) 0 (-nI b)) 7 ((s_X4_record (upd (upd f 6 (f 6 - nI b)) 5 (irem (f 5) 12 + 1)) 0 (-nI b)) 7 + 0)) := by
            unfold s_X4_strike_0
            rw [if_pos m1, if_neg l0]
          have eV : (s_X4_release_0 f (nI d) lf) = (0, upd (s_X4_record (upd (upd f 6 (f 6 - nI b)) 5 (irem (f 5) 12 + 1)) 0 (-nI b)) 7 ((s_X4_record (upd (upd f 6 (f 6 - nI b)) 5 (irem (f 5) 12 + 1)) 0 (-nI b)) 7 + 0)) := by
            unfold s_X4_release_0
            rw [eB, if_pos hle, if_neg hb0, eS]
          rw [eX, eV]
          have hRg : Rel (upd (upd r 6 (r 6 - nI b)) 5 (s_X2_positionAfter 0 (r 5))) e (upd (upd f 6 (f 6 - nI b)) 5 (irem (f 5) 12 + 1)) := by
            rw [R6, eP]
            exact rel_upd (rel_upd hR 6 (by omega) _) 5 (by omega) _
          have hGg : GoodX C E (upd (upd f 6 (f 6 - nI b)) 5 (irem (f 5) 12 + 1)) := ⟨hG.1, ⟨by rw [show (upd (upd f 6 (f 6 - nI b)) 5 (irem (f 5) 12 + 1)) 5 = (irem (f 5) 12 + 1) from rfl]; exact hpr.1, by rw [show (upd (upd f 6 (f 6 - nI b)) 5 (irem (f 5) 12 + 1)) 5 = (irem (f 5) 12 + 1) from rfl]; exact hpr.2⟩, hG.2.2.1, ⟨by rw [show (upd (upd f 6 (f 6 - nI b)) 5 (irem (f 5) 12 + 1)) 6 = f 6 - nI b from rfl, ew, (sub_nI hwb hw).2]; omega, by rw [show (upd (upd f 6 (f 6 - nI b)) 5 (irem (f 5) 12 + 1)) 6 = f 6 - nI b from rfl, ew, (sub_nI hwb hw).2]; omega⟩, hG.2.2.2.2⟩
          have hR2 := rel_rec hRg (show cnOk ((upd (upd f 6 (f 6 - nI b)) 5 (irem (f 5) 12 + 1)) 14) from hcn) 0 (-nI b)
          have e7 : (s_X4_record (upd (upd f 6 (f 6 - nI b)) 5 (irem (f 5) 12 + 1)) 0 (-nI b)) 7 = f 7 := rec_lo (upd (upd f 6 (f 6 - nI b)) 5 (irem (f 5) 12 + 1)) 0 (-nI b) (by omega)
          refine ⟨rfl, ?_, (good_rec hGg 0 (-nI b)).mono (by omega) (by omega), ?_⟩
          · rw [e7, Int32.add_zero]
            have hR3 := rel_upd hR2 7 (by omega) (f 7)
            refine rel_r hR3 (all15 rfl rfl rfl rfl rfl rfl rfl R7 rfl rfl rfl rfl rfl rfl rfl)
          · exact ⟨rec_lo (upd (upd f 6 (f 6 - nI b)) 5 (irem (f 5) 12 + 1)) 0 (-nI b) (show 0 ≤ 13 by omega), rec_lo (upd (upd f 6 (f 6 - nI b)) 5 (irem (f 5) 12 + 1)) 0 (-nI b) (show 1 ≤ 13 by omega), rec_lo (upd (upd f 6 (f 6 - nI b)) 5 (irem (f 5) 12 + 1)) 0 (-nI b) (show 2 ≤ 13 by omega), rec_lo (upd (upd f 6 (f 6 - nI b)) 5 (irem (f 5) 12 + 1)) 0 (-nI b) (show 3 ≤ 13 by omega)⟩
      · have eW : s_X2_releaseWith 0 (r 4) (r 5) (r 6) (r 8) (nI d) = (nI b, r 5, r 6 - nI b, r 8) := by
          unfold s_X2_releaseWith
          rw [eF]
          exact (if_neg hm).trans ((if_neg eC).trans (if_neg (fun z => m1 (R4.symm.trans z))))
        by_cases l0 : lf = 0
        · skip
          have eX : (s_X3_release_h r e (nI d) lf) = (nI b, (upd (upd (upd (upd (upd r 5 (r 5)) 6 (r 6 - nI b)) 7 (r 7 + nI b)) 8 (r 8)) 14 (if 6 < r 14 + 1 then 6 else r 14 + 1)), (e3 (shf (r 0) (e 0)) (shf 0 (e 1)) (shf (nI b) (e 2)))) := by
            unfold s_X3_release_h
            rw [eW]
            exact (if_neg hb0).trans (if_pos l0)
          have eS : s_X4_strike_0 f (nI b) lf = (nI b, upd (s_X4_record (upd f 6 (f 6 - nI b)) 0 (nI b)) 7 ((s_X4_record (upd f 6 (f 6 - nI b)) 0 (nI b)) 7 + nI b)) := by
            unfold s_X4_strike_0
            rw [if_neg m1, if_pos l0]
          have eV : (s_X4_release_0 f (nI d) lf) = (nI b, upd (s_X4_record (upd f 6 (f 6 - nI b)) 0 (nI b)) 7 ((s_X4_record (upd f 6 (f 6 - nI b)) 0 (nI b)) 7 + nI b)) := by
            unfold s_X4_release_0
            rw [eB, if_pos hle, if_neg hb0, eS]
          rw [eX, eV]
          have hRg : Rel (upd r 6 (r 6 - nI b)) e (upd f 6 (f 6 - nI b)) := by
            rw [R6]
            exact rel_upd hR 6 (by omega) _
          have hGg : GoodX C E (upd f 6 (f 6 - nI b)) := ⟨hG.1, hG.2.1, hG.2.2.1, ⟨by rw [show (upd f 6 (f 6 - nI b)) 6 = f 6 - nI b from rfl, ew, (sub_nI hwb hw).2]; omega, by rw [show (upd f 6 (f 6 - nI b)) 6 = f 6 - nI b from rfl, ew, (sub_nI hwb hw).2]; omega⟩, hG.2.2.2.2⟩
          have hR2 := rel_rec hRg (show cnOk ((upd f 6 (f 6 - nI b)) 14) from hcn) 0 (nI b)
          have e7 : (s_X4_record (upd f 6 (f 6 - nI b)) 0 (nI b)) 7 = f 7 := rec_lo (upd f 6 (f 6 - nI b)) 0 (nI b) (by omega)
          refine ⟨rfl, ?_, (good_rec hGg 0 (nI b)).mono (by omega) (by omega), ?_⟩
          · rw [e7]
            have hR3 := rel_upd hR2 7 (by omega) (f 7 + nI b)
            refine rel_r hR3 (all15 rfl rfl rfl rfl rfl rfl rfl (by show r 7 + nI b = f 7 + nI b; rw [R7]) rfl rfl rfl rfl rfl rfl rfl)
          · exact ⟨rec_lo (upd f 6 (f 6 - nI b)) 0 (nI b) (show 0 ≤ 13 by omega), rec_lo (upd f 6 (f 6 - nI b)) 0 (nI b) (show 1 ≤ 13 by omega), rec_lo (upd f 6 (f 6 - nI b)) 0 (nI b) (show 2 ≤ 13 by omega), rec_lo (upd f 6 (f 6 - nI b)) 0 (nI b) (show 3 ≤ 13 by omega)⟩
        · skip
          have eX : (s_X3_release_h r e (nI d) lf) = (0, (upd (upd (upd (upd r 5 (r 5)) 6 (r 6 - nI b)) 8 (r 8)) 14 (if 6 < r 14 + 1 then 6 else r 14 + 1)), (e3 (shf (r 0) (e 0)) (shf 0 (e 1)) (shf (-nI b) (e 2)))) := by
            unfold s_X3_release_h
            rw [eW]
            exact (if_neg hb0).trans (if_neg l0)
          have eS : s_X4_strike_0 f (nI b) lf = (0, upd (s_X4_record (upd f 6 (f 6 - nI b)) 0 (-nI b)) 7 ((s_X4_record (upd f 6 (f 6 - nI b)) 0 (-nI b)) 7 + 0)) := by
            unfold s_X4_strike_0
            rw [if_neg m1, if_neg l0]
          have eV : (s_X4_release_0 f (nI d) lf) = (0, upd (s_X4_record (upd f 6 (f 6 - nI b)) 0 (-nI b)) 7 ((s_X4_record (upd f 6 (f 6 - nI b)) 0 (-nI b)) 7 + 0)) := by
            unfold s_X4_release_0
            rw [eB, if_pos hle, if_neg hb0, eS]
          rw [eX, eV]
          have hRg : Rel (upd r 6 (r 6 - nI b)) e (upd f 6 (f 6 - nI b)) := by
            rw [R6]
            exact rel_upd hR 6 (by omega) _
          have hGg : GoodX C E (upd f 6 (f 6 - nI b)) := ⟨hG.1, hG.2.1, hG.2.2.1, ⟨by rw [show (upd f 6 (f 6 - nI b)) 6 = f 6 - nI b from rfl, ew, (sub_nI hwb hw).2]; omega, by rw [show (upd f 6 (f 6 - nI b)) 6 = f 6 - nI b from rfl, ew, (sub_nI hwb hw).2]; omega⟩, hG.2.2.2.2⟩
          have hR2 := rel_rec hRg (show cnOk ((upd f 6 (f 6 - nI b)) 14) from hcn) 0 (-nI b)
          have e7 : (s_X4_record (upd f 6 (f 6 - nI b)) 0 (-nI b)) 7 = f 7 := rec_lo (upd f 6 (f 6 - nI b)) 0 (-nI b) (by omega)
          refine ⟨rfl, ?_, (good_rec hGg 0 (-nI b)).mono (by omega) (by omega), ?_⟩
          · rw [e7, Int32.add_zero]
            have hR3 := rel_upd hR2 7 (by omega) (f 7)
            refine rel_r hR3 (all15 rfl rfl rfl rfl rfl rfl rfl R7 rfl rfl rfl rfl rfl rfl rfl)
          · exact ⟨rec_lo (upd f 6 (f 6 - nI b)) 0 (-nI b) (show 0 ≤ 13 by omega), rec_lo (upd f 6 (f 6 - nI b)) 0 (-nI b) (show 1 ≤ 13 by omega), rec_lo (upd f 6 (f 6 - nI b)) 0 (-nI b) (show 2 ≤ 13 by omega), rec_lo (upd f 6 (f 6 - nI b)) 0 (-nI b) (show 3 ≤ 13 by omega)⟩
set_option maxHeartbeats 1000000 in
theorem rel_1 {C E : Nat} {r f : Nat → Int32} {e : Nat → Nat → Int32} (hR : Rel r e f) (hG : GoodX C E f) (hC : E ≤ 1000000) {d : Nat} (hd1 : 1 ≤ d) (hd2 : d ≤ 4) (lf : Int32) : (s_X3_release_q r e (nI d) lf).1 = (s_X4_release_1 f (nI d) lf).1 ∧ Rel (s_X3_release_q r e (nI d) lf).2.1 (s_X3_release_q r e (nI d) lf).2.2 (s_X4_release_1 f (nI d) lf).2 ∧ GoodX C (E + 1) (s_X4_release_1 f (nI d) lf).2 ∧ ((s_X4_release_1 f (nI d) lf).2 0 = f 0 ∧ (s_X4_release_1 f (nI d) lf).2 1 = f 1 ∧ (s_X4_release_1 f (nI d) lf).2 2 = f 2 ∧ (s_X4_release_1 f (nI d) lf).2 3 = f 3) := by
  have R9 := hR.1 9 (by omega)
  have R10 := hR.1 10 (by omega)
  have R11 := hR.1 11 (by omega)
  have R12 := hR.1 12 (by omega)
  have R13 := hR.1 13 (by omega)
  have hcn : cnOk (f 14) := ⟨by rw [Int32.le_iff_toInt_le]; exact hG.2.2.2.2.2.2.2.1, by rw [Int32.le_iff_toInt_le]; exact hG.2.2.2.2.2.2.2.2⟩
  obtain ⟨w, hw, ew, -⟩ := pb_nat (n := 2000) hG.2.2.2.2.1.1 hG.2.2.2.2.1.2
  obtain ⟨pz, hp, ep, ep2⟩ := pb_nat (n := 4) (by have := hG.2.2.1.1; omega) hG.2.2.1.2
  have hp1 : 1 ≤ pz := by have := hG.2.2.1.1; omega
  by_cases m0 : f 9 = 0
  · have eW : s_X2_releaseWith 1 (r 9) (r 10) (r 11) (r 13) (nI d) = (0, r 10, r 11, r 13) := by
      unfold s_X2_releaseWith
      exact if_pos (R9.trans m0)
    have eX : (s_X3_release_q r e (nI d) lf) = (0, upd (upd (upd r 10 (r 10)) 11 (r 11)) 13 (r 13), e) := by
      unfold s_X3_release_q
      rw [eW]
      exact if_pos rfl
    have eB : s_X4_blowsOf_1 f (nI d) = 0 := by
      unfold s_X4_blowsOf_1
      exact if_pos m0
    have eV : (s_X4_release_1 f (nI d) lf) = (0, f) := by
      unfold s_X4_release_1
      rw [eB, if_pos (show (0 : Int32) ≤ f 11 by rw [ew]; exact nI_pos' (by omega)), if_pos rfl]
    rw [eX, eV]
    exact ⟨rfl, rel_r hR (all15 rfl rfl rfl rfl rfl rfl rfl rfl rfl rfl rfl rfl rfl rfl rfl), hG.mono (by omega) (by omega), rfl, rfl, rfl, rfl⟩
  · have hm : ¬ r 9 = 0 := fun z => m0 (R9.symm.trans z)
    obtain ⟨b, hb1, hb2, eF, eB⟩ : ∃ b : Nat, 1 ≤ b ∧ b ≤ 4 ∧ s_X2_blowsFor (r 9) (r 10) (nI d) = nI b ∧ s_X4_blowsOf_1 f (nI d) = nI b := by
      unfold s_X2_blowsFor s_X4_blowsOf_1
      by_cases m1 : f 9 = 1
      · exact ⟨pz, hp1, hp, (if_pos (R9.trans m1)).trans (R10.trans ep), (if_neg m0).trans ((if_pos m1).trans ep)⟩
      · exact ⟨d, hd1, hd2, if_neg (fun z => m1 (R9.symm.trans z)), (if_neg m0).trans (if_neg m1)⟩
    have hb0 : ¬ nI b = 0 := nI_ne0 (by omega) (by omega)
    rcases Nat.lt_or_ge w b with hwb | hwb
    · have eC : s_X2_canStrike (r 9) (r 10) (r 11) (nI d) = 0 := by
        unfold s_X2_canStrike
        rw [eF]
        exact (if_neg hm).trans (if_pos (by rw [R11, ew]; exact nI_lt hwb (by omega)))
      have eW : s_X2_releaseWith 1 (r 9) (r 10) (r 11) (r 13) (nI d) = (0, r 10, r 11, r 13 + 1) := by
        unfold s_X2_releaseWith
        rw [eC]
        exact (if_neg hm).trans (if_pos rfl)
      have eX : (s_X3_release_q r e (nI d) lf) = (0, upd (upd (upd r 10 (r 10)) 11 (r 11)) 13 (r 13 + 1), e) := by
        unfold s_X3_release_q
        rw [eW]
        exact if_pos rfl
      have eV : (s_X4_release_1 f (nI d) lf) = (0, upd f 13 (f 13 + 1)) := by
        unfold s_X4_release_1
        rw [eB, if_neg (show ¬ nI b ≤ f 11 by rw [ew]; exact nI_ge hwb (by omega))]
      have e8 : (f 13 + 1).toInt = (f 13).toInt + 1 := by
        have h1 := hG.2.2.2.2.2.2.1.1
        have h2 := hG.2.2.2.2.2.2.1.2
        rw [pb_add (by rw [show (1 : Int32).toInt = 1 from rfl]; omega) (by rw [show (1 : Int32).toInt = 1 from rfl]; omega), show (1 : Int32).toInt = 1 from rfl]
      have h81 := hG.2.2.2.2.2.2.1.1
      have h82 := hG.2.2.2.2.2.2.1.2
      rw [eX, eV]
      refine ⟨rfl, ?_, ⟨hG.1, hG.2.1, hG.2.2.1, hG.2.2.2.1, hG.2.2.2.2.1, hG.2.2.2.2.2.1, ⟨(show 0 ≤ (f 13 + 1).toInt by rw [e8]; omega), (show (f 13 + 1).toInt ≤ ((E + 1 : Nat) : Int) by rw [e8]; omega)⟩, hG.2.2.2.2.2.2.2⟩, rfl, rfl, rfl, rfl⟩
      rw [R13]
      exact rel_r (rel_upd hR 13 (by omega) (f 13 + 1)) (all15 rfl rfl rfl rfl rfl rfl rfl rfl rfl rfl rfl rfl rfl rfl rfl)
    · have eC : ¬ s_X2_canStrike (r 9) (r 10) (r 11) (nI d) = 0 := by
        unfold s_X2_canStrike
        rw [eF, if_neg hm, if_neg (show ¬ r 11 < nI b by rw [R11, ew]; exact nI_nlt hwb (by omega))]
        decide
      have hle : nI b ≤ f 11 := by rw [ew]; exact nI_le hwb (by omega)
      by_cases m1 : f 9 = 1
      · have eP : s_X2_positionAfter 1 (r 10) = irem (f 10) 4 + 1 := by
          rw [R10, ep]
          exact (pos_all1 pz (by omega) hp1).1
        have hpr : 1 ≤ (irem (f 10) 4 + 1).toInt ∧ (irem (f 10) 4 + 1).toInt ≤ 4 := by
          rw [← eP, R10, ep]
          obtain ⟨dd, g1, g2, g3⟩ := dueOk_nat (pos_all1 pz (by omega) hp1).2
          rw [g3, nI_toInt (by omega)]
          omega
        have eW : s_X2_releaseWith 1 (r 9) (r 10) (r 11) (r 13) (nI d) = (nI b, s_X2_positionAfter 1 (r 10), r 11 - nI b, r 13) := by
          unfold s_X2_releaseWith
          rw [eF]
          exact (if_neg hm).trans ((if_neg eC).trans (if_pos (R9.trans m1)))
        by_cases l0 : lf = 0
        · skip
          have eX : (s_X3_release_q r e (nI d) lf) = (nI b, (upd (upd (upd (upd (upd r 10 (s_X2_positionAfter 1 (r 10))) 11 (r 11 - nI b)) 12 (r 12 + nI b)) 13 (r 13)) 14 (if 6 < r 14 + 1 then 6 else r 14 + 1)), (e3 (shf (r 0) (e 0)) (shf 1 (e 1)) (shf (nI b) (e 2)))) := by
            unfold s_X3_release_q
            rw [eW]
            exact (if_neg hb0).trans (if_pos l0)
          have eS : s_X4_strike_1 f (nI b) lf = (nI b, upd (s_X4_record (upd (upd f 11 (f 11 - nI b)) 10 (irem (f 10) 4 + 1)) 1 (nI b)) 12 ((s_X4_record (upd (upd f 11 (f 11 - nI b)) 10 (irem (f 10) 4 + 1)) 1 (nI b)) 12 + nI b)) := by
            unfold s_X4_strike_1
            rw [if_pos m1, if_pos l0]
          have eV : (s_X4_release_1 f (nI d) lf) = (nI b, upd (s_X4_record (upd (upd f 11 (f 11 - nI b)) 10 (irem (f 10) 4 + 1)) 1 (nI b)) 12 ((s_X4_record (upd (upd f 11 (f 11 - nI b)) 10 (irem (f 10) 4 + 1)) 1 (nI b)) 12 + nI b)) := by
            unfold s_X4_release_1
            rw [eB, if_pos hle, if_neg hb0, eS]
          rw [eX, eV]
          have hRg : Rel (upd (upd r 11 (r 11 - nI b)) 10 (s_X2_positionAfter 1 (r 10))) e (upd (upd f 11 (f 11 - nI b)) 10 (irem (f 10) 4 + 1)) := by
            rw [R11, eP]
            exact rel_upd (rel_upd hR 11 (by omega) _) 10 (by omega) _
          have hGg : GoodX C E (upd (upd f 11 (f 11 - nI b)) 10 (irem (f 10) 4 + 1)) := ⟨hG.1, hG.2.1, ⟨by rw [show (upd (upd f 11 (f 11 - nI b)) 10 (irem (f 10) 4 + 1)) 10 = (irem (f 10) 4 + 1) from rfl]; exact hpr.1, by rw [show (upd (upd f 11 (f 11 - nI b)) 10 (irem (f 10) 4 + 1)) 10 = (irem (f 10) 4 + 1) from rfl]; exact hpr.2⟩, hG.2.2.2.1, ⟨by rw [show (upd (upd f 11 (f 11 - nI b)) 10 (irem (f 10) 4 + 1)) 11 = f 11 - nI b from rfl, ew, (sub_nI hwb hw).2]; omega, by rw [show (upd (upd f 11 (f 11 - nI b)) 10 (irem (f 10) 4 + 1)) 11 = f 11 - nI b from rfl, ew, (sub_nI hwb hw).2]; omega⟩, hG.2.2.2.2.2⟩
          have hR2 := rel_rec hRg (show cnOk ((upd (upd f 11 (f 11 - nI b)) 10 (irem (f 10) 4 + 1)) 14) from hcn) 1 (nI b)
          have e7 : (s_X4_record (upd (upd f 11 (f 11 - nI b)) 10 (irem (f 10) 4 + 1)) 1 (nI b)) 12 = f 12 := rec_lo (upd (upd f 11 (f 11 - nI b)) 10 (irem (f 10) 4 + 1)) 1 (nI b) (by omega)
          refine ⟨rfl, ?_, (good_rec hGg 1 (nI b)).mono (by omega) (by omega), ?_⟩
          · rw [e7]
            have hR3 := rel_upd hR2 12 (by omega) (f 12 + nI b)
            refine rel_r hR3 (all15 rfl rfl rfl rfl rfl rfl rfl rfl rfl rfl rfl rfl (by show r 12 + nI b = f 12 + nI b; rw [R12]) rfl rfl)
          · exact ⟨rec_lo (upd (upd f 11 (f 11 - nI b)) 10 (irem (f 10) 4 + 1)) 1 (nI b) (show 0 ≤ 13 by omega), rec_lo (upd (upd f 11 (f 11 - nI b)) 10 (irem (f 10) 4 + 1)) 1 (nI b) (show 1 ≤ 13 by omega), rec_lo (upd (upd f 11 (f 11 - nI b)) 10 (irem (f 10) 4 + 1)) 1 (nI b) (show 2 ≤ 13 by omega), rec_lo (upd (upd f 11 (f 11 - nI b)) 10 (irem (f 10) 4 + 1)) 1 (nI b) (show 3 ≤ 13 by omega)⟩
        · skip
          have eX : (s_X3_release_q r e (nI d) lf) = (0, (upd (upd (upd (upd r 10 (s_X2_positionAfter 1 (r 10))) 11 (r 11 - nI b)) 13 (r 13)) 14 (if 6 < r 14 + 1 then 6 else r 14 + 1)), (e3 (shf (r 0) (e 0)) (shf 1 (e 1)) (shf (-nI b) (e 2)))) := by
            unfold s_X3_release_q
            rw [eW]
            exact (if_neg hb0).trans (if_neg l0)
          have eS : s_X4_strike_1 f (nI b) lf = (0, upd (s_X4_record (upd (upd f 11 (f 11 - nI b)) 10 (irem (f 10) 4 + 1)) 1 (-nI b)) 12 ((s_X4_record (upd (upd f 11 (f 11 - nI b)) 10 (irem (f 10) 4 + 1)) 1 (-nI b)) 12 + 0)) := by
            unfold s_X4_strike_1
            rw [if_pos m1, if_neg l0]
          have eV : (s_X4_release_1 f (nI d) lf) = (0, upd (s_X4_record (upd (upd f 11 (f 11 - nI b)) 10 (irem (f 10) 4 + 1)) 1 (-nI b)) 12 ((s_X4_record (upd (upd f 11 (f 11 - nI b)) 10 (irem (f 10) 4 + 1)) 1 (-nI b)) 12 + 0)) := by
            unfold s_X4_release_1
            rw [eB, if_pos hle, if_neg hb0, eS]
          rw [eX, eV]
          have hRg : Rel (upd (upd r 11 (r 11 - nI b)) 10 (s_X2_positionAfter 1 (r 10))) e (upd (upd f 11 (f 11 - nI b)) 10 (irem (f 10) 4 + 1)) := by
            rw [R11, eP]
            exact rel_upd (rel_upd hR 11 (by omega) _) 10 (by omega) _
          have hGg : GoodX C E (upd (upd f 11 (f 11 - nI b)) 10 (irem (f 10) 4 + 1)) := ⟨hG.1, hG.2.1, ⟨by rw [show (upd (upd f 11 (f 11 - nI b)) 10 (irem (f 10) 4 + 1)) 10 = (irem (f 10) 4 + 1) from rfl]; exact hpr.1, by rw [show (upd (upd f 11 (f 11 - nI b)) 10 (irem (f 10) 4 + 1)) 10 = (irem (f 10) 4 + 1) from rfl]; exact hpr.2⟩, hG.2.2.2.1, ⟨by rw [show (upd (upd f 11 (f 11 - nI b)) 10 (irem (f 10) 4 + 1)) 11 = f 11 - nI b from rfl, ew, (sub_nI hwb hw).2]; omega, by rw [show (upd (upd f 11 (f 11 - nI b)) 10 (irem (f 10) 4 + 1)) 11 = f 11 - nI b from rfl, ew, (sub_nI hwb hw).2]; omega⟩, hG.2.2.2.2.2⟩
          have hR2 := rel_rec hRg (show cnOk ((upd (upd f 11 (f 11 - nI b)) 10 (irem (f 10) 4 + 1)) 14) from hcn) 1 (-nI b)
          have e7 : (s_X4_record (upd (upd f 11 (f 11 - nI b)) 10 (irem (f 10) 4 + 1)) 1 (-nI b)) 12 = f 12 := rec_lo (upd (upd f 11 (f 11 - nI b)) 10 (irem (f 10) 4 + 1)) 1 (-nI b) (by omega)
          refine ⟨rfl, ?_, (good_rec hGg 1 (-nI b)).mono (by omega) (by omega), ?_⟩
          · rw [e7, Int32.add_zero]
            have hR3 := rel_upd hR2 12 (by omega) (f 12)
            refine rel_r hR3 (all15 rfl rfl rfl rfl rfl rfl rfl rfl rfl rfl rfl rfl R12 rfl rfl)
          · exact ⟨rec_lo (upd (upd f 11 (f 11 - nI b)) 10 (irem (f 10) 4 + 1)) 1 (-nI b) (show 0 ≤ 13 by omega), rec_lo (upd (upd f 11 (f 11 - nI b)) 10 (irem (f 10) 4 + 1)) 1 (-nI b) (show 1 ≤ 13 by omega), rec_lo (upd (upd f 11 (f 11 - nI b)) 10 (irem (f 10) 4 + 1)) 1 (-nI b) (show 2 ≤ 13 by omega), rec_lo (upd (upd f 11 (f 11 - nI b)) 10 (irem (f 10) 4 + 1)) 1 (-nI b) (show 3 ≤ 13 by omega)⟩
      · have eW : s_X2_releaseWith 1 (r 9) (r 10) (r 11) (r 13) (nI d) = (nI b, r 10, r 11 - nI b, r 13) := by
          unfold s_X2_releaseWith
          rw [eF]
          exact (if_neg hm).trans ((if_neg eC).trans (if_neg (fun z => m1 (R9.symm.trans z))))
        by_cases l0 : lf = 0
        · skip
          have eX : (s_X3_release_q r e (nI d) lf) = (nI b, (upd (upd (upd (upd (upd r 10 (r 10)) 11 (r 11 - nI b)) 12 (r 12 + nI b)) 13 (r 13)) 14 (if 6 < r 14 + 1 then 6 else r 14 + 1)), (e3 (shf (r 0) (e 0)) (shf 1 (e 1)) (shf (nI b) (e 2)))) := by
            unfold s_X3_release_q
            rw [eW]
            exact (if_neg hb0).trans (if_pos l0)
          have eS : s_X4_strike_1 f (nI b) lf = (nI b, upd (s_X4_record (upd f 11 (f 11 - nI b)) 1 (nI b)) 12 ((s_X4_record (upd f 11 (f 11 - nI b)) 1 (nI b)) 12 + nI b)) := by
            unfold s_X4_strike_1
            rw [if_neg m1, if_pos l0]
          have eV : (s_X4_release_1 f (nI d) lf) = (nI b, upd (s_X4_record (upd f 11 (f 11 - nI b)) 1 (nI b)) 12 ((s_X4_record (upd f 11 (f 11 - nI b)) 1 (nI b)) 12 + nI b)) := by
            unfold s_X4_release_1
            rw [eB, if_pos hle, if_neg hb0, eS]
          rw [eX, eV]
          have hRg : Rel (upd r 11 (r 11 - nI b)) e (upd f 11 (f 11 - nI b)) := by
            rw [R11]
            exact rel_upd hR 11 (by omega) _
          have hGg : GoodX C E (upd f 11 (f 11 - nI b)) := ⟨hG.1, hG.2.1, hG.2.2.1, hG.2.2.2.1, ⟨by rw [show (upd f 11 (f 11 - nI b)) 11 = f 11 - nI b from rfl, ew, (sub_nI hwb hw).2]; omega, by rw [show (upd f 11 (f 11 - nI b)) 11 = f 11 - nI b from rfl, ew, (sub_nI hwb hw).2]; omega⟩, hG.2.2.2.2.2⟩
          have hR2 := rel_rec hRg (show cnOk ((upd f 11 (f 11 - nI b)) 14) from hcn) 1 (nI b)
          have e7 : (s_X4_record (upd f 11 (f 11 - nI b)) 1 (nI b)) 12 = f 12 := rec_lo (upd f 11 (f 11 - nI b)) 1 (nI b) (by omega)
          refine ⟨rfl, ?_, (good_rec hGg 1 (nI b)).mono (by omega) (by omega), ?_⟩
          · rw [e7]
            have hR3 := rel_upd hR2 12 (by omega) (f 12 + nI b)
            refine rel_r hR3 (all15 rfl rfl rfl rfl rfl rfl rfl rfl rfl rfl rfl rfl (by show r 12 + nI b = f 12 + nI b; rw [R12]) rfl rfl)
          · exact ⟨rec_lo (upd f 11 (f 11 - nI b)) 1 (nI b) (show 0 ≤ 13 by omega), rec_lo (upd f 11 (f 11 - nI b)) 1 (nI b) (show 1 ≤ 13 by omega), rec_lo (upd f 11 (f 11 - nI b)) 1 (nI b) (show 2 ≤ 13 by omega), rec_lo (upd f 11 (f 11 - nI b)) 1 (nI b) (show 3 ≤ 13 by omega)⟩
        · skip
          have eX : (s_X3_release_q r e (nI d) lf) = (0, (upd (upd (upd (upd r 10 (r 10)) 11 (r 11 - nI b)) 13 (r 13)) 14 (if 6 < r 14 + 1 then 6 else r 14 + 1)), (e3 (shf (r 0) (e 0)) (shf 1 (e 1)) (shf (-nI b) (e 2)))) := by
            unfold s_X3_release_q
            rw [eW]
            exact (if_neg hb0).trans (if_neg l0)
          have eS : s_X4_strike_1 f (nI b) lf = (0, upd (s_X4_record (upd f 11 (f 11 - nI b)) 1 (-nI b)) 12 ((s_X4_record (upd f 11 (f 11 - nI b)) 1 (-nI b)) 12 + 0)) := by
            unfold s_X4_strike_1
            rw [if_neg m1, if_neg l0]
          have eV : (s_X4_release_1 f (nI d) lf) = (0, upd (s_X4_record (upd f 11 (f 11 - nI b)) 1 (-nI b)) 12 ((s_X4_record (upd f 11 (f 11 - nI b)) 1 (-nI b)) 12 + 0)) := by
            unfold s_X4_release_1
            rw [eB, if_pos hle, if_neg hb0, eS]
          rw [eX, eV]
          have hRg : Rel (upd r 11 (r 11 - nI b)) e (upd f 11 (f 11 - nI b)) := by
            rw [R11]
            exact rel_upd hR 11 (by omega) _
          have hGg : GoodX C E (upd f 11 (f 11 - nI b)) := ⟨hG.1, hG.2.1, hG.2.2.1, hG.2.2.2.1, ⟨by rw [show (upd f 11 (f 11 - nI b)) 11 = f 11 - nI b from rfl, ew, (sub_nI hwb hw).2]; omega, by rw [show (upd f 11 (f 11 - nI b)) 11 = f 11 - nI b from rfl, ew, (sub_nI hwb hw).2]; omega⟩, hG.2.2.2.2.2⟩
          have hR2 := rel_rec hRg (show cnOk ((upd f 11 (f 11 - nI b)) 14) from hcn) 1 (-nI b)
          have e7 : (s_X4_record (upd f 11 (f 11 - nI b)) 1 (-nI b)) 12 = f 12 := rec_lo (upd f 11 (f 11 - nI b)) 1 (-nI b) (by omega)
          refine ⟨rfl, ?_, (good_rec hGg 1 (-nI b)).mono (by omega) (by omega), ?_⟩
          · rw [e7, Int32.add_zero]
            have hR3 := rel_upd hR2 12 (by omega) (f 12)
            refine rel_r hR3 (all15 rfl rfl rfl rfl rfl rfl rfl rfl rfl rfl rfl rfl R12 rfl rfl)
          · exact ⟨rec_lo (upd f 11 (f 11 - nI b)) 1 (-nI b) (show 0 ≤ 13 by omega), rec_lo (upd f 11 (f 11 - nI b)) 1 (-nI b) (show 1 ≤ 13 by omega), rec_lo (upd f 11 (f 11 - nI b)) 1 (-nI b) (show 2 ≤ 13 by omega), rec_lo (upd f 11 (f 11 - nI b)) 1 (-nI b) (show 3 ≤ 13 by omega)⟩
