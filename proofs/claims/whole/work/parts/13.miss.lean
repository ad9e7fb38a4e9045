/-- one quarter of the trial train -/
def mtmS (nn mm : Int32) (r : Nat → Int32) (q pp wt ms : Int32) : Int32 × Int32 × Int32 :=
  if (s_X2_isReleasedAt nn q) = 0 then (pp, wt, ms) else (if (s_X0_blocksAt r q) = 0 then ((s_X2_releaseWith nn mm pp wt ms (s_X2_dueAt nn q)).2.1, (s_X2_releaseWith nn mm pp wt ms (s_X2_dueAt nn q)).2.2.1, (s_X2_releaseWith nn mm pp wt ms (s_X2_dueAt nn q)).2.2.2) else (pp, wt, ms))
/-- the trial's quarters: fuel n, from k minutes on -/
def mtmL (nn mm : Int32) (r : Nat → Int32) (mb : Int32) : Nat → Nat → Int32 → Int32 → Int32 → Int32 × Int32 × Int32 × Int32
  | 0, _, pp, wt, ms => (-1, pp, wt, ms)
  | n + 1, k, pp, wt, ms => if 20000 < k then (-1, pp, wt, ms) else
      if (mtmS nn mm r (irem (r 0 + nI k) 1440) pp wt ms).2.2 = mb then mtmL nn mm r mb n (k + 15) (mtmS nn mm r (irem (r 0 + nI k) 1440) pp wt ms).1 (mtmS nn mm r (irem (r 0 + nI k) 1440) pp wt ms).2.1 (mtmS nn mm r (irem (r 0 + nI k) 1440) pp wt ms).2.2
      else (nI k, (mtmS nn mm r (irem (r 0 + nI k) 1440) pp wt ms).1, (mtmS nn mm r (irem (r 0 + nI k) 1440) pp wt ms).2.1, (mtmS nn mm r (irem (r 0 + nI k) 1440) pp wt ms).2.2)
set_option maxHeartbeats 4000000 in
set_option maxRecDepth 100000 in
theorem lp_X3_mtm (l : Launch) (D : va_G) (cI cS : ClassId) (x : Nat) (sv : Nat) (tl : Nat) (er : Nat) (sc : Int32) (z : Nat → Int32) (a : Nat → Nat) (r : Nat → Int32) (e : Nat → Nat → Int32) (nn : Int32) (mm : Int32) (sd : Int32) (mb : Int32) {p : Program} {ev : Env} {s : State} {m : MethodId} {args : Array Value} {below : List Frame} {meth : Method} {c : Code} {A : Nat → Prop} (S : CallFix p m c cX3_minutesToMiss 5 s args wsX3_minutesToMiss RX3) (hr : meth.sig.returnType = some .int) (hlk : meth.locks = false) :
    ∀ (n k : Nat) (pp wt ms : Int32), 20000 < k + 15 * n → k ≤ 20100 → ∀ (H : Heap) (locs : List Loc) (ls : Array Slot), Gd D (tyL cI cS) A s.heap s ((x, .inr (3, [.ref (a 0), .ref sv, .ref tl, .ref er, .int sc])) :: (er, .inl (cI, 3, .inl z)) :: stW cI a r e ((tl, .inr (2, [.int nn, .int mm, .int pp, .int wt, .int sd, .int ms])) :: [])) H locs → lv_has ls 5 [(3, .int (nI k)), (2, .int mb), (0, .ref x)] → W p l ev ({ frames := 6, cells := 0, slots := 0, locals := 250 }) s m args below meth c H locs 0 0 (QE below args s D (tyL cI cS) A (some (.int (mtmL nn mm r mb n k pp wt ms).1)) ((x, .inr (3, [.ref (a 0), .ref sv, .ref tl, .ref er, .int sc])) :: (er, .inl (cI, 3, .inl z)) :: stW cI a r e ((tl, .inr (2, [.int nn, .int mm, .int ((mtmL nn mm r mb n k pp wt ms).2.1), .int ((mtmL nn mm r mb n k pp wt ms).2.2.1), .int sd, .int ((mtmL nn mm r mb n k pp wt ms).2.2.2)])) :: []))) (F0 m 51 ls []) := by
  have hx := S.1
  have hb := S.2.1
  have hown : s.vm.findClass RX3 = some m.cls := S.2.2.2.1
  have hts := S.2.2.2.2
  have hiX0 : ∀ w ∈ wsX00, w ∈ wsX3_minutesToMiss := by decide +kernel
  have hiX2 : ∀ w ∈ wsX20, w ∈ wsX3_minutesToMiss := by decide +kernel
  have hiX3 : ∀ w ∈ wsX30, w ∈ wsX3_minutesToMiss := by decide +kernel
  have hf10 := hts (.fieldLink RX3 10 "StrikingWork" "now" "LStrikingWork$State;") (by decide +kernel)
  have hf25 := hts (.fieldLink RX3 25 "StrikingWork" "trial" "LStrikingWork$Train;") (by decide +kernel)
  have hf83 := hts (.fieldLink RX3 83 "StrikingWork$State" "minute" "I") (by decide +kernel)
  have hf115 := hts (.fieldLink RX3 115 "StrikingWork$Train" "missed" "I") (by decide +kernel)
  intro n
  induction n with
  | zero =>
    intro k pp wt ms hf hk2 H locs ls G hl
    refine lv_iload_n hx hb dX3_minutesToMiss_51 rfl (lv_at hl 0 rfl) ?_
    refine lv_sipush (v := 20000) hx hb dX3_minutesToMiss_52 (by decide) ?_
    refine lv_icmp_gt (tgt := 133) hx hb dX3_minutesToMiss_55 (by decide) (fun c_1 => ?_) (fun c_1 => absurd (show (20000 : Int32) < nI k from nI_lt (a := 20000) (by omega) (by omega)) c_1)
    refine lv_iconst (v := (-1)) hx hb dX3_minutesToMiss_133 (by decide) ?_
    exact k_iret S G hr hlk dX3_minutesToMiss_134 rfl rfl
  | succ n ih =>
    intro k pp wt ms hf hk2 H locs ls G hl
    rcases Nat.lt_or_ge 20000 k with hlt | hge
    · skip
      refine lv_iload_n hx hb dX3_minutesToMiss_51 rfl (lv_at hl 0 rfl) ?_
      refine lv_sipush (v := 20000) hx hb dX3_minutesToMiss_52 (by decide) ?_
      refine lv_icmp_gt (tgt := 133) hx hb dX3_minutesToMiss_55 (by decide) (fun c_1 => ?_) (fun c_1 => absurd (show (20000 : Int32) < nI k from nI_lt (a := 20000) (by omega) (by omega)) c_1)
      refine lv_iconst (v := (-1)) hx hb dX3_minutesToMiss_133 (by decide) ?_
      have eL : mtmL nn mm r mb (n + 1) k pp wt ms = (-1, pp, wt, ms) := by rw [mtmL, if_pos hlt]
      exact k_iret S G hr hlk dX3_minutesToMiss_134 (by first | (rw [eL]; done) | (rw [eL]; rfl)) (by first | (rw [eL]; done) | (rw [eL]; rfl))
    · skip
      refine lv_iload_n hx hb dX3_minutesToMiss_51 rfl (lv_at hl 0 rfl) ?_
      refine lv_sipush (v := 20000) hx hb dX3_minutesToMiss_52 (by decide) ?_
      refine lv_icmp_gt (tgt := 133) hx hb dX3_minutesToMiss_55 (by decide) (fun c_1 => absurd c_1 (show ¬ (20000 : Int32) < nI k from nI_nlt (a := 20000) hge (by omega))) (fun c_1 => ?_)
      refine lv_aload_n hx hb dX3_minutesToMiss_58 rfl (lv_at hl 2 rfl) ?_
      refine k_get (v := .ref (a 0)) S G 0 rfl rfl hiX3 0 (by decide) hf10 rfl dX3_minutesToMiss_59 ?_
      refine k_get (v := .int (r 0)) S G 2 rfl rfl hiX0 3 (by decide) hf83 rfl dX3_minutesToMiss_62 ?_
      refine lv_iload_n hx hb dX3_minutesToMiss_65 rfl (lv_at hl 0 rfl) ?_
      refine lv_iadd hx hb dX3_minutesToMiss_66 ?_
      refine lv_sipush (v := 1440) hx hb dX3_minutesToMiss_67 (by decide) ?_
      refine lv_irem hx hb dX3_minutesToMiss_70 (by decide) ?_
      refine lv_lit (v := (irem ((r 0) + (nI k)) 1440)) rfl ?_
      refine lv_istore (lv' := [(4, .int (irem ((r 0) + (nI k)) 1440)), (3, .int (nI k)), (2, .int mb), (0, .ref x)]) hx hb dX3_minutesToMiss_71 hl (by decide) rfl (fun ls hl => ?_)
      refine lv_aload_n hx hb dX3_minutesToMiss_73 rfl (lv_at hl 3 rfl) ?_
      refine k_get (v := .ref tl) S G 0 rfl rfl hiX3 2 (by decide) hf25 rfl dX3_minutesToMiss_74 ?_
      refine lv_iload hx hb dX3_minutesToMiss_77 (lv_at hl 0 rfl) ?_
      refine k_callV (n := 1) (As := [.int (irem ((r 0) + (nI k)) 1440)]) (rest := []) (st1 := [.int (s_X2_isReleasedAt nn (irem ((r 0) + (nI k)) 1440))]) (ws1 := ((x, .inr (3, [.ref (a 0), .ref sv, .ref tl, .ref er, .int sc])) :: (er, .inl (cI, 3, .inl z)) :: stW cI a r e ((tl, .inr (2, [.int nn, .int mm, .int pp, .int wt, .int sd, .int ms])) :: []))) S G (c_X2_isReleasedAt l D cI cS tl nn mm pp wt sd ms (irem ((r 0) + (nI k)) 1440)) gX3_minutesToMiss_X2_isReleasedAt rfl (by decide +kernel) ⟨⟨rfl, rfl⟩, Nat.le_of_ble_eq_true rfl, Nat.le_of_ble_eq_true rfl⟩ [9] (by decide) rfl [tl] rfl rfl 9 rfl rfl rfl hl.1 rfl (Nat.le_of_ble_eq_true rfl) ⟨Nat.zero_le _, Nat.zero_le _⟩ dX3_minutesToMiss_79 rfl rfl (fun H locs G => ?_)
      refine lv_if_eq (tgt := 114) hx hb dX3_minutesToMiss_82 (by decide) (fun c_2 => ?_) (fun c_2 => ?_)
      · skip
        refine lv_aload_n hx hb dX3_minutesToMiss_114 rfl (lv_at hl 3 rfl) ?_
        refine k_get (v := .ref tl) S G 0 rfl rfl hiX3 2 (by decide) hf25 rfl dX3_minutesToMiss_115 ?_
        refine k_get (v := .int ms) S G 9 rfl rfl hiX2 5 (by decide) hf115 rfl dX3_minutesToMiss_118 ?_
        refine lv_iload_n hx hb dX3_minutesToMiss_121 rfl (lv_at hl 2 rfl) ?_
        refine lv_icmp_eq (tgt := 127) hx hb dX3_minutesToMiss_122 (by decide) (fun c_3 => ?_) (fun c_3 => ?_)
        · skip
          refine lv_iinc (v := (nI (k + 15))) (lv' := [(3, .int (nI (k + 15))), (4, .int (irem ((r 0) + (nI k)) 1440)), (2, .int mb), (0, .ref x)]) hx hb dX3_minutesToMiss_127 hl (k := 1) rfl (nI_add k 15) (by decide) rfl (fun ls hl => ?_)
          refine lv_goto (tgt := 51) hx hb dX3_minutesToMiss_130 (by decide) ?_
          have eS : mtmS nn mm r (irem ((r 0) + (nI k)) 1440) pp wt ms = (pp, wt, ms) := by rw [mtmS, if_pos c_2]
          have eL : mtmL nn mm r mb (n + 1) k pp wt ms = mtmL nn mm r mb n (k + 15) pp wt ms := by rw [mtmL, if_neg (Nat.not_lt.mpr hge), eS, if_pos c_3]
          rw [eL]
          exact ih (k + 15) pp wt ms (by omega) (by omega) _ _ ls G (lv_sub hl [0, 2, 3] rfl)
        · skip
          refine lv_iload_n hx hb dX3_minutesToMiss_125 rfl (lv_at hl 1 rfl) ?_
          have eS : mtmS nn mm r (irem ((r 0) + (nI k)) 1440) pp wt ms = (pp, wt, ms) := by rw [mtmS, if_pos c_2]
          have eL : mtmL nn mm r mb (n + 1) k pp wt ms = (nI k, pp, wt, ms) := by rw [mtmL, if_neg (Nat.not_lt.mpr hge), eS, if_neg c_3]
          exact k_iret S G hr hlk dX3_minutesToMiss_126 (by first | (rw [eL]; done) | (rw [eL]; rfl)) (by first | (rw [eL]; done) | (rw [eL]; rfl))
      · skip
        refine lv_aload_n hx hb dX3_minutesToMiss_85 rfl (lv_at hl 3 rfl) ?_
        refine k_get (v := .ref (a 0)) S G 0 rfl rfl hiX3 0 (by decide) hf10 rfl dX3_minutesToMiss_86 ?_
        refine lv_iload hx hb dX3_minutesToMiss_89 (lv_at hl 0 rfl) ?_
        refine k_callV (n := 1) (As := [.int (irem ((r 0) + (nI k)) 1440)]) (rest := []) (st1 := [.int (s_X0_blocksAt r (irem ((r 0) + (nI k)) 1440))]) (ws1 := ((x, .inr (3, [.ref (a 0), .ref sv, .ref tl, .ref er, .int sc])) :: (er, .inl (cI, 3, .inl z)) :: stW cI a r e ((tl, .inr (2, [.int nn, .int mm, .int pp, .int wt, .int sd, .int ms])) :: []))) S G (c_X0_blocksAt l D cI cS a r e (irem ((r 0) + (nI k)) 1440)) gX3_minutesToMiss_X0_blocksAt rfl (by decide +kernel) ⟨⟨rfl, rfl⟩, Nat.le_of_ble_eq_true rfl, Nat.le_of_ble_eq_true rfl⟩ [2, 3, 4, 5, 6, 7, 8] (by decide) rfl [(a 0), (a 1), (a 2), (a 3), (a 4), (a 5), (a 6)] rfl rfl 2 rfl rfl rfl hl.1 rfl (Nat.le_of_ble_eq_true rfl) ⟨Nat.zero_le _, Nat.zero_le _⟩ dX3_minutesToMiss_91 rfl rfl (fun H locs G => ?_)
        refine lv_if_ne (tgt := 114) hx hb dX3_minutesToMiss_94 (by decide) (fun c_4 => ?_) (fun c_4 => ?_)
        · skip
          refine lv_aload_n hx hb dX3_minutesToMiss_114 rfl (lv_at hl 3 rfl) ?_
          refine k_get (v := .ref tl) S G 0 rfl rfl hiX3 2 (by decide) hf25 rfl dX3_minutesToMiss_115 ?_
          refine k_get (v := .int ms) S G 9 rfl rfl hiX2 5 (by decide) hf115 rfl dX3_minutesToMiss_118 ?_
          refine lv_iload_n hx hb dX3_minutesToMiss_121 rfl (lv_at hl 2 rfl) ?_
          refine lv_icmp_eq (tgt := 127) hx hb dX3_minutesToMiss_122 (by decide) (fun c_5 => ?_) (fun c_5 => ?_)
          · skip
            refine lv_iinc (v := (nI (k + 15))) (lv' := [(3, .int (nI (k + 15))), (4, .int (irem ((r 0) + (nI k)) 1440)), (2, .int mb), (0, .ref x)]) hx hb dX3_minutesToMiss_127 hl (k := 1) rfl (nI_add k 15) (by decide) rfl (fun ls hl => ?_)
            refine lv_goto (tgt := 51) hx hb dX3_minutesToMiss_130 (by decide) ?_
            have eS : mtmS nn mm r (irem ((r 0) + (nI k)) 1440) pp wt ms = (pp, wt, ms) := by rw [mtmS, if_neg c_2, if_neg c_4]
            have eL : mtmL nn mm r mb (n + 1) k pp wt ms = mtmL nn mm r mb n (k + 15) pp wt ms := by rw [mtmL, if_neg (Nat.not_lt.mpr hge), eS, if_pos c_5]
            rw [eL]
            exact ih (k + 15) pp wt ms (by omega) (by omega) _ _ ls G (lv_sub hl [0, 2, 3] rfl)
          · skip
            refine lv_iload_n hx hb dX3_minutesToMiss_125 rfl (lv_at hl 1 rfl) ?_
            have eS : mtmS nn mm r (irem ((r 0) + (nI k)) 1440) pp wt ms = (pp, wt, ms) := by rw [mtmS, if_neg c_2, if_neg c_4]
            have eL : mtmL nn mm r mb (n + 1) k pp wt ms = (nI k, pp, wt, ms) := by rw [mtmL, if_neg (Nat.not_lt.mpr hge), eS, if_neg c_5]
            exact k_iret S G hr hlk dX3_minutesToMiss_126 (by first | (rw [eL]; done) | (rw [eL]; rfl)) (by first | (rw [eL]; done) | (rw [eL]; rfl))
        · skip
          refine lv_aload_n hx hb dX3_minutesToMiss_97 rfl (lv_at hl 3 rfl) ?_
          refine k_get (v := .ref tl) S G 0 rfl rfl hiX3 2 (by decide) hf25 rfl dX3_minutesToMiss_98 ?_
          refine lv_aload_n hx hb dX3_minutesToMiss_101 rfl (lv_at hl 3 rfl) ?_
          refine k_get (v := .ref tl) S G 0 rfl rfl hiX3 2 (by decide) hf25 rfl dX3_minutesToMiss_102 ?_
          refine lv_iload hx hb dX3_minutesToMiss_105 (lv_at hl 0 rfl) ?_
          refine k_callV (n := 1) (As := [.int (irem ((r 0) + (nI k)) 1440)]) (rest := [.ref tl]) (st1 := [.int (s_X2_dueAt nn (irem ((r 0) + (nI k)) 1440)), .ref tl]) (ws1 := ((x, .inr (3, [.ref (a 0), .ref sv, .ref tl, .ref er, .int sc])) :: (er, .inl (cI, 3, .inl z)) :: stW cI a r e ((tl, .inr (2, [.int nn, .int mm, .int pp, .int wt, .int sd, .int ms])) :: []))) S G (c_X2_dueAt l D cI cS tl nn mm pp wt sd ms (irem ((r 0) + (nI k)) 1440)) gX3_minutesToMiss_X2_dueAt rfl (by decide +kernel) ⟨⟨rfl, rfl⟩, Nat.le_of_ble_eq_true rfl, Nat.le_of_ble_eq_true rfl⟩ [9] (by decide) rfl [tl] rfl rfl 9 rfl rfl rfl hl.1 rfl (Nat.le_of_ble_eq_true rfl) ⟨Nat.zero_le _, Nat.zero_le _⟩ dX3_minutesToMiss_107 rfl rfl (fun H locs G => ?_)
          refine k_callV (n := 1) (As := [.int (s_X2_dueAt nn (irem ((r 0) + (nI k)) 1440))]) (rest := []) (st1 := [.int ((s_X2_releaseWith nn mm pp wt ms (s_X2_dueAt nn (irem ((r 0) + (nI k)) 1440))).1)]) (ws1 := ((x, .inr (3, [.ref (a 0), .ref sv, .ref tl, .ref er, .int sc])) :: (er, .inl (cI, 3, .inl z)) :: stW cI a r e ((tl, .inr (2, [.int nn, .int mm, .int ((s_X2_releaseWith nn mm pp wt ms (s_X2_dueAt nn (irem ((r 0) + (nI k)) 1440))).2.1), .int ((s_X2_releaseWith nn mm pp wt ms (s_X2_dueAt nn (irem ((r 0) + (nI k)) 1440))).2.2.1), .int sd, .int ((s_X2_releaseWith nn mm pp wt ms (s_X2_dueAt nn (irem ((r 0) + (nI k)) 1440))).2.2.2)])) :: []))) S G (c_X2_releaseWith l D cI cS tl nn mm pp wt sd ms (s_X2_dueAt nn (irem ((r 0) + (nI k)) 1440))) gX3_minutesToMiss_X2_releaseWith rfl (by decide +kernel) ⟨⟨rfl, rfl⟩, Nat.le_of_ble_eq_true rfl, Nat.le_of_ble_eq_true rfl⟩ [9] (by decide) rfl [tl] rfl rfl 9 rfl rfl rfl hl.1 rfl (Nat.le_of_ble_eq_true rfl) ⟨Nat.zero_le _, Nat.zero_le _⟩ dX3_minutesToMiss_110 rfl rfl (fun H locs G => ?_)
          generalize hu1 : (s_X2_releaseWith nn mm pp wt ms (s_X2_dueAt nn (irem ((r 0) + (nI k)) 1440))) = u1 at G ⊢
          refine lv_pop hx hb dX3_minutesToMiss_113 rfl ?_
          refine lv_aload_n hx hb dX3_minutesToMiss_114 rfl (lv_at hl 3 rfl) ?_
          refine k_get (v := .ref tl) S G 0 rfl rfl hiX3 2 (by decide) hf25 rfl dX3_minutesToMiss_115 ?_
          refine k_get (v := .int u1.2.2.2) S G 9 rfl rfl hiX2 5 (by decide) hf115 rfl dX3_minutesToMiss_118 ?_
          refine lv_iload_n hx hb dX3_minutesToMiss_121 rfl (lv_at hl 2 rfl) ?_
          refine lv_icmp_eq (tgt := 127) hx hb dX3_minutesToMiss_122 (by decide) (fun c_6 => ?_) (fun c_6 => ?_)
          · skip
            refine lv_iinc (v := (nI (k + 15))) (lv' := [(3, .int (nI (k + 15))), (4, .int (irem ((r 0) + (nI k)) 1440)), (2, .int mb), (0, .ref x)]) hx hb dX3_minutesToMiss_127 hl (k := 1) rfl (nI_add k 15) (by decide) rfl (fun ls hl => ?_)
            refine lv_goto (tgt := 51) hx hb dX3_minutesToMiss_130 (by decide) ?_
            have eS : mtmS nn mm r (irem ((r 0) + (nI k)) 1440) pp wt ms = (u1.2.1, u1.2.2.1, u1.2.2.2) := by rw [mtmS, if_neg c_2, if_pos c_4, hu1]
            have eL : mtmL nn mm r mb (n + 1) k pp wt ms = mtmL nn mm r mb n (k + 15) u1.2.1 u1.2.2.1 u1.2.2.2 := by rw [mtmL, if_neg (Nat.not_lt.mpr hge), eS, if_pos c_6]
            rw [eL]
            exact ih (k + 15) u1.2.1 u1.2.2.1 u1.2.2.2 (by omega) (by omega) _ _ ls G (lv_sub hl [0, 2, 3] rfl)
          · skip
            refine lv_iload_n hx hb dX3_minutesToMiss_125 rfl (lv_at hl 1 rfl) ?_
            have eS : mtmS nn mm r (irem ((r 0) + (nI k)) 1440) pp wt ms = (u1.2.1, u1.2.2.1, u1.2.2.2) := by rw [mtmS, if_neg c_2, if_pos c_4, hu1]
            have eL : mtmL nn mm r mb (n + 1) k pp wt ms = (nI k, u1.2.1, u1.2.2.1, u1.2.2.2) := by rw [mtmL, if_neg (Nat.not_lt.mpr hge), eS, if_neg c_6]
            exact k_iret S G hr hlk dX3_minutesToMiss_126 (by first | (rw [eL]; done) | (rw [eL]; rfl)) (by first | (rw [eL]; done) | (rw [eL]; rfl))
theorem QE.eq {p : Program} {l : Launch} {e : Env} {R : Room} {s : State} {m : MethodId} {args : Array Value} {below : List Frame} {meth : Method} {c : Code} {H : Heap} {locs : List Loc} {cells slots : Nat} {D : va_G} {A : Nat → Prop} {tys : List (ClassId × FieldType)} {v v' : Option Value} {W1 W1' : va_W} {g : JFrame} (h1 : v' = v) (h2 : W1' = W1) (k : W p l e R s m args below meth c H locs cells slots (QE below args s D tys A v' W1') g) : W p l e R s m args below meth c H locs cells slots (QE below args s D tys A v W1) g := by
  subst h1; subst h2; exact k
def s_X3_minutesToMiss (z : Nat → Int32) (r : Nat → Int32) (n0 : Int32) (m0 : Int32) (p0 : Int32) (w0 : Int32) (s0 : Int32) (f0 : Int32) (tn : Int32) : Int32 × (Nat → Int32) × Int32 × Int32 × Int32 × Int32 × Int32 × Int32 := (if tn = 0 then ((mtmL 0 (r 4) r (r 8) 1400 (k0f (r 0)) (r 5) (r 6) (r 8)).1, z, 0, (r 4), (mtmL 0 (r 4) r (r 8) 1400 (k0f (r 0)) (r 5) (r 6) (r 8)).2.1, (mtmL 0 (r 4) r (r 8) 1400 (k0f (r 0)) (r 5) (r 6) (r 8)).2.2.1, (r 7), (mtmL 0 (r 4) r (r 8) 1400 (k0f (r 0)) (r 5) (r 6) (r 8)).2.2.2) else (if tn = 1 then ((mtmL 1 (r 9) r (r 13) 1400 (k0f (r 0)) (r 10) (r 11) (r 13)).1, z, 1, (r 9), (mtmL 1 (r 9) r (r 13) 1400 (k0f (r 0)) (r 10) (r 11) (r 13)).2.1, (mtmL 1 (r 9) r (r 13) 1400 (k0f (r 0)) (r 10) (r 11) (r 13)).2.2.1, (r 12), (mtmL 1 (r 9) r (r 13) 1400 (k0f (r 0)) (r 10) (r 11) (r 13)).2.2.2) else ((-2), (upd z 0 ((z 0) + 1)), n0, m0, p0, w0, s0, f0)))
set_option maxHeartbeats 4000000 in
set_option maxRecDepth 100000 in
theorem c_X3_minutesToMiss (l : Launch) (D : va_G) (cI cS : ClassId) (x : Nat) (sv : Nat) (tl : Nat) (er : Nat) (sc : Int32) (z : Nat → Int32) (a : Nat → Nat) (r : Nat → Int32) (e : Nat → Nat → Int32) (n0 : Int32) (m0 : Int32) (p0 : Int32) (w0 : Int32) (s0 : Int32) (f0 : Int32) (tn : Int32) (hr0 : 0 ≤ r 0 ∧ r 0 < 1440) : Ct l yX3_minutesToMiss wsX3_minutesToMiss ({ frames := 6, cells := 0, slots := 0, locals := 250 }) D (tyL cI cS) [.ref x, .int tn] ((x, .inr (3, [.ref (a 0), .ref sv, .ref tl, .ref er, .int sc])) :: (er, .inl (cI, 3, .inl z)) :: stW cI a r e ((tl, .inr (2, [.int n0, .int m0, .int p0, .int w0, .int s0, .int f0])) :: [])) (some (.int ((s_X3_minutesToMiss z r n0 m0 p0 w0 s0 f0 tn).1))) ((x, .inr (3, [.ref (a 0), .ref sv, .ref tl, .ref er, .int sc])) :: (er, .inl (cI, 3, .inl ((s_X3_minutesToMiss z r n0 m0 p0 w0 s0 f0 tn).2.1))) :: stW cI a r e ((tl, .inr (2, [.int ((s_X3_minutesToMiss z r n0 m0 p0 w0 s0 f0 tn).2.2.1), .int ((s_X3_minutesToMiss z r n0 m0 p0 w0 s0 f0 tn).2.2.2.1), .int ((s_X3_minutesToMiss z r n0 m0 p0 w0 s0 f0 tn).2.2.2.2.1), .int ((s_X3_minutesToMiss z r n0 m0 p0 w0 s0 f0 tn).2.2.2.2.2.1), .int ((s_X3_minutesToMiss z r n0 m0 p0 w0 s0 f0 tn).2.2.2.2.2.2.1), .int ((s_X3_minutesToMiss z r n0 m0 p0 w0 s0 f0 tn).2.2.2.2.2.2.2)])) :: [])) := by
  refine Ct.of (cc := cX3_minutesToMiss) (maxL := 5) (ret := (some .int)) (by decide) rfl (Nat.le_of_ble_eq_true rfl) ?_
  intro p ev s m args below meth c A ls S hr hlk G hl
  have hx := S.1
  have hb := S.2.1
  have hown : s.vm.findClass RX3 = some m.cls := S.2.2.2.1
  have hts := S.2.2.2.2
  have hl : lv_has ls 5 [(0, .ref x), (1, .int tn)] := hl
  have hiX0 : ∀ w ∈ wsX00, w ∈ wsX3_minutesToMiss := by decide +kernel
  have hiX2 : ∀ w ∈ wsX20, w ∈ wsX3_minutesToMiss := by decide +kernel
  have hiX3 : ∀ w ∈ wsX30, w ∈ wsX3_minutesToMiss := by decide +kernel
  have hf10 := hts (.fieldLink RX3 10 "StrikingWork" "now" "LStrikingWork$State;") (by decide +kernel)
  have hf25 := hts (.fieldLink RX3 25 "StrikingWork" "trial" "LStrikingWork$Train;") (by decide +kernel)
  have hf83 := hts (.fieldLink RX3 83 "StrikingWork$State" "minute" "I") (by decide +kernel)
  have hf115 := hts (.fieldLink RX3 115 "StrikingWork$Train" "missed" "I") (by decide +kernel)
  by_cases c_1 : tn = 0
  · skip
    have hl : lv_has ls 5 [(0, .ref x), (1, .int 0)] := by rw [← c_1]; exact hl
    refine lv_iload_n hx hb dX3_minutesToMiss_0 rfl (lv_at hl 1 rfl) ?_
    refine k_callS (n := 1) (As := [.int 0]) (rest := []) (st1 := [.int 1]) (ws1 := ((x, .inr (3, [.ref (a 0), .ref sv, .ref tl, .ref er, .int sc])) :: (er, .inl (cI, 3, .inl z)) :: stW cI a r e ((tl, .inr (2, [.int n0, .int m0, .int p0, .int w0, .int s0, .int f0])) :: []))) S G (c_X3_isTrain l D cI cS 0) gX3_minutesToMiss_X3_isTrain rfl (by decide +kernel) ⟨⟨rfl, rfl⟩, Nat.le_of_ble_eq_true rfl, Nat.le_of_ble_eq_true rfl⟩ [] (by decide) rfl [] rfl rfl rfl hl.1 rfl (Nat.le_of_ble_eq_true rfl) ⟨Nat.zero_le _, Nat.zero_le _⟩ dX3_minutesToMiss_1 (congrArg (fun z => Value.int z :: []) (by decide : (s_X3_isTrain 0) = 1)) rfl (fun H locs G => ?_)
    refine lv_if_ne (tgt := 14) hx hb dX3_minutesToMiss_4 (by decide) (fun c_2 => ?_) (fun c_2 => absurd c_2 (by decide))
    refine lv_aload_n hx hb dX3_minutesToMiss_14 rfl (lv_at hl 0 rfl) ?_
    refine k_get (v := .ref tl) S G 0 rfl rfl hiX3 2 (by decide) hf25 rfl dX3_minutesToMiss_15 ?_
    refine lv_aload_n hx hb dX3_minutesToMiss_18 rfl (lv_at hl 0 rfl) ?_
    refine k_get (v := .ref (a 0)) S G 0 rfl rfl hiX3 0 (by decide) hf10 rfl dX3_minutesToMiss_19 ?_
    refine lv_iload_n hx hb dX3_minutesToMiss_22 rfl (lv_at hl 1 rfl) ?_
    refine k_callV (n := 1) (As := [.int 0]) (rest := [.ref tl]) (st1 := [.ref (a 1), .ref tl]) (ws1 := ((x, .inr (3, [.ref (a 0), .ref sv, .ref tl, .ref er, .int sc])) :: (er, .inl (cI, 3, .inl z)) :: stW cI a r e ((tl, .inr (2, [.int n0, .int m0, .int p0, .int w0, .int s0, .int f0])) :: []))) S G (c_X0_trainOf_0 l D cI cS a r e) gX3_minutesToMiss_X0_trainOf rfl (by decide +kernel) ⟨⟨rfl, rfl⟩, Nat.le_of_ble_eq_true rfl, Nat.le_of_ble_eq_true rfl⟩ [2, 3, 4, 5, 6, 7, 8] (by decide) rfl [(a 0), (a 1), (a 2), (a 3), (a 4), (a 5), (a 6)] rfl rfl 2 rfl rfl rfl hl.1 rfl (Nat.le_of_ble_eq_true rfl) ⟨Nat.zero_le _, Nat.zero_le _⟩ dX3_minutesToMiss_23 rfl rfl (fun H locs G => ?_)
    refine k_callV (n := 1) (As := [.ref (a 1)]) (rest := []) (st1 := []) (ws1 := ((x, .inr (3, [.ref (a 0), .ref sv, .ref tl, .ref er, .int sc])) :: (er, .inl (cI, 3, .inl z)) :: stW cI a r e ((tl, .inr (2, [.int 0, .int (r 4), .int (r 5), .int (r 6), .int (r 7), .int (r 8)])) :: []))) S G (c_X2_copyFrom l D cI cS tl n0 m0 p0 w0 s0 f0 (a 1) 0 (r 4) (r 5) (r 6) (r 7) (r 8)) gX3_minutesToMiss_X2_copyFrom rfl (by decide +kernel) ⟨⟨rfl, rfl⟩, Nat.le_of_ble_eq_true rfl, Nat.le_of_ble_eq_true rfl⟩ [9, 3] (by decide) rfl [tl, (a 1)] rfl rfl 9 rfl rfl rfl hl.1 rfl (Nat.le_of_ble_eq_true rfl) ⟨Nat.zero_le _, Nat.zero_le _⟩ dX3_minutesToMiss_26 rfl rfl (fun H locs G => ?_)
    refine lv_aload_n hx hb dX3_minutesToMiss_29 rfl (lv_at hl 0 rfl) ?_
    refine k_get (v := .ref tl) S G 0 rfl rfl hiX3 2 (by decide) hf25 rfl dX3_minutesToMiss_30 ?_
    refine k_get (v := .int (r 8)) S G 9 rfl rfl hiX2 5 (by decide) hf115 rfl dX3_minutesToMiss_33 ?_
    refine lv_istore_n (lv' := [(2, .int (r 8)), (0, .ref x), (1, .int 0)]) hx hb dX3_minutesToMiss_36 rfl hl (by decide) rfl (fun ls hl => ?_)
    refine lv_bipush (v := 15) hx hb dX3_minutesToMiss_37 (by decide) ?_
    refine lv_aload_n hx hb dX3_minutesToMiss_39 rfl (lv_at hl 1 rfl) ?_
    refine k_get (v := .ref (a 0)) S G 0 rfl rfl hiX3 0 (by decide) hf10 rfl dX3_minutesToMiss_40 ?_
    refine k_get (v := .int (r 0)) S G 2 rfl rfl hiX0 3 (by decide) hf83 rfl dX3_minutesToMiss_43 ?_
    refine lv_bipush (v := 15) hx hb dX3_minutesToMiss_46 (by decide) ?_
    refine lv_irem hx hb dX3_minutesToMiss_48 (by decide) ?_
    refine lv_lit (v := (irem (r 0) 15)) rfl ?_
    refine lv_isub hx hb dX3_minutesToMiss_49 ?_
    refine lv_istore_n (lv' := [(3, .int (15 - (irem (r 0) 15))), (2, .int (r 8)), (0, .ref x), (1, .int 0)]) hx hb dX3_minutesToMiss_50 rfl hl (by decide) rfl (fun ls hl => ?_)
    obtain ⟨k0, hk0, ek0⟩ := k0_of hr0
    have eK : k0 = k0f (r 0) := by rw [k0f, ek0, nI_clamp (by omega)]
    rw [ek0] at hl
    have es : (s_X3_minutesToMiss z r n0 m0 p0 w0 s0 f0 tn) = ((mtmL 0 (r 4) r (r 8) 1400 (k0f (r 0)) (r 5) (r 6) (r 8)).1, z, 0, (r 4), (mtmL 0 (r 4) r (r 8) 1400 (k0f (r 0)) (r 5) (r 6) (r 8)).2.1, (mtmL 0 (r 4) r (r 8) 1400 (k0f (r 0)) (r 5) (r 6) (r 8)).2.2.1, (r 7), (mtmL 0 (r 4) r (r 8) 1400 (k0f (r 0)) (r 5) (r 6) (r 8)).2.2.2) := by rw [s_X3_minutesToMiss, if_pos c_1]
    refine QE.eq (by rw [es]) (by rw [es]) (lp_X3_mtm l D cI cS x sv tl er sc z a r e 0 (r 4) (r 7) (r 8) S hr hlk 1400 (k0f (r 0)) (r 5) (r 6) (r 8) (by omega) (by omega) _ _ ls G (by rw [eK] at hl; exact lv_sub hl [0, 1, 2] rfl))
  · skip
    by_cases c_3 : tn = 1
    · skip
      have hl : lv_has ls 5 [(0, .ref x), (1, .int 1)] := by rw [← c_3]; exact hl
      refine lv_iload_n hx hb dX3_minutesToMiss_0 rfl (lv_at hl 1 rfl) ?_
      refine k_callS (n := 1) (As := [.int 1]) (rest := []) (st1 := [.int 1]) (ws1 := ((x, .inr (3, [.ref (a 0), .ref sv, .ref tl, .ref er, .int sc])) :: (er, .inl (cI, 3, .inl z)) :: stW cI a r e ((tl, .inr (2, [.int n0, .int m0, .int p0, .int w0, .int s0, .int f0])) :: []))) S G (c_X3_isTrain l D cI cS 1) gX3_minutesToMiss_X3_isTrain rfl (by decide +kernel) ⟨⟨rfl, rfl⟩, Nat.le_of_ble_eq_true rfl, Nat.le_of_ble_eq_true rfl⟩ [] (by decide) rfl [] rfl rfl rfl hl.1 rfl (Nat.le_of_ble_eq_true rfl) ⟨Nat.zero_le _, Nat.zero_le _⟩ dX3_minutesToMiss_1 (congrArg (fun z => Value.int z :: []) (by decide : (s_X3_isTrain 1) = 1)) rfl (fun H locs G => ?_)
      refine lv_if_ne (tgt := 14) hx hb dX3_minutesToMiss_4 (by decide) (fun c_4 => ?_) (fun c_4 => absurd c_4 (by decide))
      refine lv_aload_n hx hb dX3_minutesToMiss_14 rfl (lv_at hl 0 rfl) ?_
      refine k_get (v := .ref tl) S G 0 rfl rfl hiX3 2 (by decide) hf25 rfl dX3_minutesToMiss_15 ?_
      refine lv_aload_n hx hb dX3_minutesToMiss_18 rfl (lv_at hl 0 rfl) ?_
      refine k_get (v := .ref (a 0)) S G 0 rfl rfl hiX3 0 (by decide) hf10 rfl dX3_minutesToMiss_19 ?_
      refine lv_iload_n hx hb dX3_minutesToMiss_22 rfl (lv_at hl 1 rfl) ?_
      refine k_callV (n := 1) (As := [.int 1]) (rest := [.ref tl]) (st1 := [.ref (a 2), .ref tl]) (ws1 := ((x, .inr (3, [.ref (a 0), .ref sv, .ref tl, .ref er, .int sc])) :: (er, .inl (cI, 3, .inl z)) :: stW cI a r e ((tl, .inr (2, [.int n0, .int m0, .int p0, .int w0, .int s0, .int f0])) :: []))) S G (c_X0_trainOf_1 l D cI cS a r e) gX3_minutesToMiss_X0_trainOf rfl (by decide +kernel) ⟨⟨rfl, rfl⟩, Nat.le_of_ble_eq_true rfl, Nat.le_of_ble_eq_true rfl⟩ [2, 3, 4, 5, 6, 7, 8] (by decide) rfl [(a 0), (a 1), (a 2), (a 3), (a 4), (a 5), (a 6)] rfl rfl 2 rfl rfl rfl hl.1 rfl (Nat.le_of_ble_eq_true rfl) ⟨Nat.zero_le _, Nat.zero_le _⟩ dX3_minutesToMiss_23 rfl rfl (fun H locs G => ?_)
      refine k_callV (n := 1) (As := [.ref (a 2)]) (rest := []) (st1 := []) (ws1 := ((x, .inr (3, [.ref (a 0), .ref sv, .ref tl, .ref er, .int sc])) :: (er, .inl (cI, 3, .inl z)) :: stW cI a r e ((tl, .inr (2, [.int 1, .int (r 9), .int (r 10), .int (r 11), .int (r 12), .int (r 13)])) :: []))) S G (c_X2_copyFrom l D cI cS tl n0 m0 p0 w0 s0 f0 (a 2) 1 (r 9) (r 10) (r 11) (r 12) (r 13)) gX3_minutesToMiss_X2_copyFrom rfl (by decide +kernel) ⟨⟨rfl, rfl⟩, Nat.le_of_ble_eq_true rfl, Nat.le_of_ble_eq_true rfl⟩ [9, 4] (by decide) rfl [tl, (a 2)] rfl rfl 9 rfl rfl rfl hl.1 rfl (Nat.le_of_ble_eq_true rfl) ⟨Nat.zero_le _, Nat.zero_le _⟩ dX3_minutesToMiss_26 rfl rfl (fun H locs G => ?_)
      refine lv_aload_n hx hb dX3_minutesToMiss_29 rfl (lv_at hl 0 rfl) ?_
      refine k_get (v := .ref tl) S G 0 rfl rfl hiX3 2 (by decide) hf25 rfl dX3_minutesToMiss_30 ?_
      refine k_get (v := .int (r 13)) S G 9 rfl rfl hiX2 5 (by decide) hf115 rfl dX3_minutesToMiss_33 ?_
      refine lv_istore_n (lv' := [(2, .int (r 13)), (0, .ref x), (1, .int 1)]) hx hb dX3_minutesToMiss_36 rfl hl (by decide) rfl (fun ls hl => ?_)
      refine lv_bipush (v := 15) hx hb dX3_minutesToMiss_37 (by decide) ?_
      refine lv_aload_n hx hb dX3_minutesToMiss_39 rfl (lv_at hl 1 rfl) ?_
      refine k_get (v := .ref (a 0)) S G 0 rfl rfl hiX3 0 (by decide) hf10 rfl dX3_minutesToMiss_40 ?_
      refine k_get (v := .int (r 0)) S G 2 rfl rfl hiX0 3 (by decide) hf83 rfl dX3_minutesToMiss_43 ?_
      refine lv_bipush (v := 15) hx hb dX3_minutesToMiss_46 (by decide) ?_
      refine lv_irem hx hb dX3_minutesToMiss_48 (by decide) ?_
      refine lv_lit (v := (irem (r 0) 15)) rfl ?_
      refine lv_isub hx hb dX3_minutesToMiss_49 ?_
      refine lv_istore_n (lv' := [(3, .int (15 - (irem (r 0) 15))), (2, .int (r 13)), (0, .ref x), (1, .int 1)]) hx hb dX3_minutesToMiss_50 rfl hl (by decide) rfl (fun ls hl => ?_)
      obtain ⟨k0, hk0, ek0⟩ := k0_of hr0
      have eK : k0 = k0f (r 0) := by rw [k0f, ek0, nI_clamp (by omega)]
      rw [ek0] at hl
      have es : (s_X3_minutesToMiss z r n0 m0 p0 w0 s0 f0 tn) = ((mtmL 1 (r 9) r (r 13) 1400 (k0f (r 0)) (r 10) (r 11) (r 13)).1, z, 1, (r 9), (mtmL 1 (r 9) r (r 13) 1400 (k0f (r 0)) (r 10) (r 11) (r 13)).2.1, (mtmL 1 (r 9) r (r 13) 1400 (k0f (r 0)) (r 10) (r 11) (r 13)).2.2.1, (r 12), (mtmL 1 (r 9) r (r 13) 1400 (k0f (r 0)) (r 10) (r 11) (r 13)).2.2.2) := by rw [s_X3_minutesToMiss, if_neg c_1, if_pos c_3]
      refine QE.eq (by rw [es]) (by rw [es]) (lp_X3_mtm l D cI cS x sv tl er sc z a r e 1 (r 9) (r 12) (r 13) S hr hlk 1400 (k0f (r 0)) (r 10) (r 11) (r 13) (by omega) (by omega) _ _ ls G (by rw [eK] at hl; exact lv_sub hl [0, 1, 2] rfl))
    · skip
      refine lv_iload_n hx hb dX3_minutesToMiss_0 rfl (lv_at hl 1 rfl) ?_
      refine k_callS (n := 1) (As := [.int tn]) (rest := []) (st1 := [.int 0]) (ws1 := ((x, .inr (3, [.ref (a 0), .ref sv, .ref tl, .ref er, .int sc])) :: (er, .inl (cI, 3, .inl z)) :: stW cI a r e ((tl, .inr (2, [.int n0, .int m0, .int p0, .int w0, .int s0, .int f0])) :: []))) S G (c_X3_isTrain l D cI cS tn) gX3_minutesToMiss_X3_isTrain rfl (by decide +kernel) ⟨⟨rfl, rfl⟩, Nat.le_of_ble_eq_true rfl, Nat.le_of_ble_eq_true rfl⟩ [] (by decide) rfl [] rfl rfl rfl hl.1 rfl (Nat.le_of_ble_eq_true rfl) ⟨Nat.zero_le _, Nat.zero_le _⟩ dX3_minutesToMiss_1 (congrArg (fun z => Value.int z :: []) (by rw [s_X3_isTrain, if_neg c_1, if_neg c_3])) rfl (fun H locs G => ?_)
      refine lv_if_ne (tgt := 14) hx hb dX3_minutesToMiss_4 (by decide) (fun c_5 => absurd c_5 (by decide)) (fun c_5 => ?_)
      refine lv_aload_n hx hb dX3_minutesToMiss_7 rfl (lv_at hl 0 rfl) ?_
      refine lv_bipush (v := (-2)) hx hb dX3_minutesToMiss_8 (by decide) ?_
      refine k_callV (n := 1) (As := [.int (-2)]) (rest := []) (st1 := [.int (-2)]) (ws1 := ((x, .inr (3, [.ref (a 0), .ref sv, .ref tl, .ref er, .int sc])) :: (er, .inl (cI, 3, .inl (upd z 0 ((z 0) + 1)))) :: stW cI a r e ((tl, .inr (2, [.int n0, .int m0, .int p0, .int w0, .int s0, .int f0])) :: []))) S G (c_X3_refuse_2 l D cI cS (a 0) x sv tl er sc z) gX3_minutesToMiss_X3_refuse rfl (by decide +kernel) ⟨⟨rfl, rfl⟩, Nat.le_of_ble_eq_true rfl, Nat.le_of_ble_eq_true rfl⟩ [0, 1] (by decide) rfl [x, er] rfl rfl 0 rfl rfl rfl hl.1 rfl (Nat.le_of_ble_eq_true rfl) ⟨Nat.zero_le _, Nat.zero_le _⟩ dX3_minutesToMiss_10 rfl rfl (fun H locs G => ?_)
      have es : (s_X3_minutesToMiss z r n0 m0 p0 w0 s0 f0 tn) = ((-2), (upd z 0 ((z 0) + 1)), n0, m0, p0, w0, s0, f0) := by rw [s_X3_minutesToMiss, if_neg c_1, if_neg c_3]
      exact k_iret S G hr hlk dX3_minutesToMiss_13 (by first | (rw [es]; done) | (rw [es]; rfl) | (simp only [es]; done) | (simp only [es]; rfl)) (by first | (rw [es]; done) | (rw [es]; rfl) | (simp only [es]; done) | (simp only [es]; rfl))
