def LawSt (D : va_G) (cI cS : ClassId) (s : State) (x sv tl er : Nat) (a : Nat → Nat) (y nw ad pa eA : Nat) (B : Nat) (H : Heap) (locs : List Loc) : Prop :=
  ∃ (sc : Int32) (z : Nat → Int32) (r : Nat → Int32) (e : Nat → Nat → Int32) (n0 : Int32) (m0 : Int32) (p0 : Int32) (w0 : Int32) (s0 : Int32) (f0 : Int32) (sa : Nat → Nat → Nat) (sr : Nat → Nat → Int32) (se : Nat → Nat → Nat → Int32) (sn : Int32) (hs : Int64) (f : Nat → Int32) (g : Nat → Int32) (pf : Nat → Int32), Inv B sc r e sr se sn f pf ∧ Gd D (tyL cI cS) (fun q : Nat => s.heap.size ≤ q) s.heap s (W3 cI cS x sv tl er a sc z r e n0 m0 p0 w0 s0 f0 sa sr se (W4 cI y nw ad pa eA sn hs f g pf z ([]))) H locs
set_option maxHeartbeats 4000000 in
set_option maxRecDepth 100000 in
/-- the law at setMechanism -/
theorem law_c0 {p : Program} {l : Launch} {ev : Env} {s : State} {m : MethodId} {below : List Frame} {meth : Method} {c : Code} {b L : Nat} {xs : Nat → Int32} {D : va_G} {cI cS : ClassId} (C0 : lw_At p s m meth c b L xs) (hL : L ≤ 2048) {x sv tl er : Nat} {a : Nat → Nat} {y nw ad pa eA : Nat} (i B : Nat) (hi : i + 4 ≤ L) (hB : B ≤ 60000) (hk : ∀ (H : Heap) (locs : List Loc) (ls : Array Slot), LawSt D cI cS s x sv tl er a y nw ad pa eA (B + 100) H locs → lv_has ls 4 [(3, .int (nI i)), (2, .ref y), (1, .ref x), (0, .ref b)] → W p l ev room_1 s m #[Value.ref b] below meth c H locs 600000 7302250 (lw_Z below #[Value.ref b] s) (F0 m 717 ls [])) : ∀ (H : Heap) (locs : List Loc) (ls : Array Slot), LawSt D cI cS s x sv tl er a y nw ad pa eA B H locs → lv_has ls 4 [(3, .int (nI i)), (2, .ref y), (1, .ref x), (0, .ref b)] → W p l ev room_1 s m #[Value.ref b] below meth c H locs 600000 7302250 (lw_Z below #[Value.ref b] s) (F0 m 144 ls []) := by
  obtain ⟨hx, hb, hr, hml, hown, hts, hX, hbl, hlocks, hgv⟩ := C0
  have hts := fun w h => hts w (wsL_law_in w h)
  have hbA : ¬ (fun q : Nat => s.heap.size ≤ q) b := Nat.not_le.mpr hbl
  have S : CallFix p m c code 4 s #[Value.ref b] wsL_law RL := ⟨hx, hb, hml, hown, hts⟩
  intro H locs ls hs0 hl
  obtain ⟨sc, z, r, e, n0, m0, p0, w0, s0, f0, sa, sr, se, sn, hs, f, g, pf, I, G⟩ := hs0
  refine lv_aload_n hx hb dL_law_144 rfl (lv_at hl 2 rfl) ?_
  refine lv_aload_n hx hb dL_law_145 rfl (lv_at hl 3 rfl) ?_
  refine lv_iload_n hx hb dL_law_146 rfl (lv_at hl 0 rfl) ?_
  refine lv_iconst (v := 1) hx hb dL_law_147 (by decide) ?_
  refine lv_iadd hx hb dL_law_148 ?_
  refine lv_lit (v := nI (i + 1)) (nI_add i 1) ?_
  refine va_sld hx hb hX hbl hbA G.2.2.2.1 (vp_in_nI (show i + 1 < L by omega) (by omega)) dL_law_149 ?_
  refine lv_lit (v := xs (i + 1)) (congrArg xs (nI_clamp (show i + 1 < 2 ^ 31 by omega))) ?_
  refine lv_aload_n hx hb dL_law_150 rfl (lv_at hl 3 rfl) ?_
  refine lv_iload_n hx hb dL_law_151 rfl (lv_at hl 0 rfl) ?_
  refine lv_iconst (v := 2) hx hb dL_law_152 (by decide) ?_
  refine lv_iadd hx hb dL_law_153 ?_
  refine lv_lit (v := nI (i + 2)) (nI_add i 2) ?_
  refine va_sld hx hb hX hbl hbA G.2.2.2.1 (vp_in_nI (show i + 2 < L by omega) (by omega)) dL_law_154 ?_
  refine lv_lit (v := xs (i + 2)) (congrArg xs (nI_clamp (show i + 2 < 2 ^ 31 by omega))) ?_
  refine k_callF (n := 2) (As := [.int (xs (i + 1)), .int (xs (i + 2))]) (rest := []) (st1 := .int ((s_X3_setMechanism sc z r e sa sr se (xs (i + 1)) (xs (i + 2))).1) :: []) (ws1 := W3 cI cS x sv tl er a ((s_X3_setMechanism sc z r e sa sr se (xs (i + 1)) (xs (i + 2))).2.1) ((s_X3_setMechanism sc z r e sa sr se (xs (i + 1)) (xs (i + 2))).2.2.1) ((s_X3_setMechanism sc z r e sa sr se (xs (i + 1)) (xs (i + 2))).2.2.2.1) e n0 m0 p0 w0 s0 f0 ((s_X3_setMechanism sc z r e sa sr se (xs (i + 1)) (xs (i + 2))).2.2.2.2.1) ((s_X3_setMechanism sc z r e sa sr se (xs (i + 1)) (xs (i + 2))).2.2.2.2.2.1) ((s_X3_setMechanism sc z r e sa sr se (xs (i + 1)) (xs (i + 2))).2.2.2.2.2.2) (W4 cI y nw ad pa eA sn hs f g pf z ([]))) ([]) (W4 cI y nw ad pa eA sn hs f g pf z ([])) S G (c_X3_setMechanism l D cI cS x sv tl er sc z a r e n0 m0 p0 w0 s0 f0 sa sr se (xs (i + 1)) (xs (i + 2)) (Inv.sc I)) gL_law_X3_setMechanism rfl (by decide +kernel) ⟨⟨rfl, rfl⟩, Nat.le_of_ble_eq_true rfl, Nat.le_of_ble_eq_true rfl⟩ rfl 0 rfl rfl rfl hl.1 rfl (Nat.le_of_ble_eq_true rfl) ⟨Nat.le_of_ble_eq_true rfl, Nat.le_of_ble_eq_true rfl⟩ dL_law_155 rfl rfl (fun H locs G => ?_)
  generalize hu : (s_X3_setMechanism sc z r e sa sr se (xs (i + 1)) (xs (i + 2))) = u at G ⊢
  refine lv_aload_n hx hb dL_law_158 rfl (lv_at hl 1 rfl) ?_
  refine lv_aload_n hx hb dL_law_159 rfl (lv_at hl 3 rfl) ?_
  refine lv_iload_n hx hb dL_law_160 rfl (lv_at hl 0 rfl) ?_
  refine lv_iconst (v := 1) hx hb dL_law_161 (by decide) ?_
  refine lv_iadd hx hb dL_law_162 ?_
  refine lv_lit (v := nI (i + 1)) (nI_add i 1) ?_
  refine va_sld hx hb hX hbl hbA G.2.2.2.1 (vp_in_nI (show i + 1 < L by omega) (by omega)) dL_law_163 ?_
  refine lv_lit (v := xs (i + 1)) (congrArg xs (nI_clamp (show i + 1 < 2 ^ 31 by omega))) ?_
  refine lv_aload_n hx hb dL_law_164 rfl (lv_at hl 3 rfl) ?_
  refine lv_iload_n hx hb dL_law_165 rfl (lv_at hl 0 rfl) ?_
  refine lv_iconst (v := 2) hx hb dL_law_166 (by decide) ?_
  refine lv_iadd hx hb dL_law_167 ?_
  refine lv_lit (v := nI (i + 2)) (nI_add i 2) ?_
  refine va_sld hx hb hX hbl hbA G.2.2.2.1 (vp_in_nI (show i + 2 < L by omega) (by omega)) dL_law_168 ?_
  refine lv_lit (v := xs (i + 2)) (congrArg xs (nI_clamp (show i + 2 < 2 ^ 31 by omega))) ?_
  refine k_callF (n := 2) (As := [.int (xs (i + 1)), .int (xs (i + 2))]) (rest := [.int u.1]) (st1 := .int ((s_X4_setMechanism sn f pf z (xs (i + 1)) (xs (i + 2))).1) :: [.int u.1]) (ws1 := W3 cI cS x sv tl er a u.2.1 u.2.2.1 u.2.2.2.1 e n0 m0 p0 w0 s0 f0 u.2.2.2.2.1 u.2.2.2.2.2.1 u.2.2.2.2.2.2 (W4 cI y nw ad pa eA ((s_X4_setMechanism sn f pf z (xs (i + 1)) (xs (i + 2))).2.1) hs ((s_X4_setMechanism sn f pf z (xs (i + 1)) (xs (i + 2))).2.2.1) g ((s_X4_setMechanism sn f pf z (xs (i + 1)) (xs (i + 2))).2.2.2.1) ((s_X4_setMechanism sn f pf z (xs (i + 1)) (xs (i + 2))).2.2.2.2) ([]))) (W3 cI cS x sv tl er a u.2.1 u.2.2.1 u.2.2.2.1 e n0 m0 p0 w0 s0 f0 u.2.2.2.2.1 u.2.2.2.2.2.1 u.2.2.2.2.2.2 ([])) ([]) S G (c_X4_setMechanism l D cI cS y nw ad pa eA sn hs f g pf z (xs (i + 1)) (xs (i + 2)) (Inv.sn I)) gL_law_X4_setMechanism rfl (by decide +kernel) ⟨⟨rfl, rfl⟩, Nat.le_of_ble_eq_true rfl, Nat.le_of_ble_eq_true rfl⟩ rfl 0 rfl rfl rfl hl.1 rfl (Nat.le_of_ble_eq_true rfl) ⟨Nat.le_of_ble_eq_true rfl, Nat.le_of_ble_eq_true rfl⟩ dL_law_169 rfl rfl (fun H locs G => ?_)
  generalize hv : (s_X4_setMechanism sn f pf z (xs (i + 1)) (xs (i + 2))) = v at G ⊢
  have hq := pq_setMechanism I z (xs (i + 1)) (xs (i + 2))
  have hq := hq sa
  rw [hu, hv] at hq
  obtain ⟨h1, h2, I2⟩ := hq
  refine lv_icmp_eq (tgt := 717) hx hb dL_law_172 (by decide) (fun _ => ?_) (fun cc => absurd h1 cc)
  rw [← h2] at G
  exact hk _ _ ls ⟨u.2.1, u.2.2.1, u.2.2.2.1, e, n0, m0, p0, w0, s0, f0, u.2.2.2.2.1, u.2.2.2.2.2.1, u.2.2.2.2.2.2, v.2.1, hs, v.2.2.1, g, v.2.2.2.1, I2, G⟩ hl
set_option maxHeartbeats 4000000 in
set_option maxRecDepth 100000 in
/-- the law at setPosition -/
theorem law_c1 {p : Program} {l : Launch} {ev : Env} {s : State} {m : MethodId} {below : List Frame} {meth : Method} {c : Code} {b L : Nat} {xs : Nat → Int32} {D : va_G} {cI cS : ClassId} (C0 : lw_At p s m meth c b L xs) (hL : L ≤ 2048) {x sv tl er : Nat} {a : Nat → Nat} {y nw ad pa eA : Nat} (i B : Nat) (hi : i + 4 ≤ L) (hB : B ≤ 60000) (hk : ∀ (H : Heap) (locs : List Loc) (ls : Array Slot), LawSt D cI cS s x sv tl er a y nw ad pa eA (B + 100) H locs → lv_has ls 4 [(3, .int (nI i)), (2, .ref y), (1, .ref x), (0, .ref b)] → W p l ev room_1 s m #[Value.ref b] below meth c H locs 600000 7302250 (lw_Z below #[Value.ref b] s) (F0 m 717 ls [])) : ∀ (H : Heap) (locs : List Loc) (ls : Array Slot), LawSt D cI cS s x sv tl er a y nw ad pa eA B H locs → lv_has ls 4 [(3, .int (nI i)), (2, .ref y), (1, .ref x), (0, .ref b)] → W p l ev room_1 s m #[Value.ref b] below meth c H locs 600000 7302250 (lw_Z below #[Value.ref b] s) (F0 m 177 ls []) := by
  obtain ⟨hx, hb, hr, hml, hown, hts, hX, hbl, hlocks, hgv⟩ := C0
  have hts := fun w h => hts w (wsL_law_in w h)
  have hbA : ¬ (fun q : Nat => s.heap.size ≤ q) b := Nat.not_le.mpr hbl
  have S : CallFix p m c code 4 s #[Value.ref b] wsL_law RL := ⟨hx, hb, hml, hown, hts⟩
  intro H locs ls hs0 hl
  obtain ⟨sc, z, r, e, n0, m0, p0, w0, s0, f0, sa, sr, se, sn, hs, f, g, pf, I, G⟩ := hs0
  refine lv_aload_n hx hb dL_law_177 rfl (lv_at hl 2 rfl) ?_
  refine lv_aload_n hx hb dL_law_178 rfl (lv_at hl 3 rfl) ?_
  refine lv_iload_n hx hb dL_law_179 rfl (lv_at hl 0 rfl) ?_
  refine lv_iconst (v := 1) hx hb dL_law_180 (by decide) ?_
  refine lv_iadd hx hb dL_law_181 ?_
  refine lv_lit (v := nI (i + 1)) (nI_add i 1) ?_
  refine va_sld hx hb hX hbl hbA G.2.2.2.1 (vp_in_nI (show i + 1 < L by omega) (by omega)) dL_law_182 ?_
  refine lv_lit (v := xs (i + 1)) (congrArg xs (nI_clamp (show i + 1 < 2 ^ 31 by omega))) ?_
  refine lv_aload_n hx hb dL_law_183 rfl (lv_at hl 3 rfl) ?_
  refine lv_iload_n hx hb dL_law_184 rfl (lv_at hl 0 rfl) ?_
  refine lv_iconst (v := 2) hx hb dL_law_185 (by decide) ?_
  refine lv_iadd hx hb dL_law_186 ?_
  refine lv_lit (v := nI (i + 2)) (nI_add i 2) ?_
  refine va_sld hx hb hX hbl hbA G.2.2.2.1 (vp_in_nI (show i + 2 < L by omega) (by omega)) dL_law_187 ?_
  refine lv_lit (v := xs (i + 2)) (congrArg xs (nI_clamp (show i + 2 < 2 ^ 31 by omega))) ?_
  refine k_callF (n := 2) (As := [.int (xs (i + 1)), .int (xs (i + 2))]) (rest := []) (st1 := .int ((s_X3_setPosition sc z r e sa sr se (xs (i + 1)) (xs (i + 2))).1) :: []) (ws1 := W3 cI cS x sv tl er a ((s_X3_setPosition sc z r e sa sr se (xs (i + 1)) (xs (i + 2))).2.1) ((s_X3_setPosition sc z r e sa sr se (xs (i + 1)) (xs (i + 2))).2.2.1) ((s_X3_setPosition sc z r e sa sr se (xs (i + 1)) (xs (i + 2))).2.2.2.1) e n0 m0 p0 w0 s0 f0 ((s_X3_setPosition sc z r e sa sr se (xs (i + 1)) (xs (i + 2))).2.2.2.2.1) ((s_X3_setPosition sc z r e sa sr se (xs (i + 1)) (xs (i + 2))).2.2.2.2.2.1) ((s_X3_setPosition sc z r e sa sr se (xs (i + 1)) (xs (i + 2))).2.2.2.2.2.2) (W4 cI y nw ad pa eA sn hs f g pf z ([]))) ([]) (W4 cI y nw ad pa eA sn hs f g pf z ([])) S G (c_X3_setPosition l D cI cS x sv tl er sc z a r e n0 m0 p0 w0 s0 f0 sa sr se (xs (i + 1)) (xs (i + 2)) (Inv.sc I)) gL_law_X3_setPosition rfl (by decide +kernel) ⟨⟨rfl, rfl⟩, Nat.le_of_ble_eq_true rfl, Nat.le_of_ble_eq_true rfl⟩ rfl 0 rfl rfl rfl hl.1 rfl (Nat.le_of_ble_eq_true rfl) ⟨Nat.le_of_ble_eq_true rfl, Nat.le_of_ble_eq_true rfl⟩ dL_law_188 rfl rfl (fun H locs G => ?_)
  generalize hu : (s_X3_setPosition sc z r e sa sr se (xs (i + 1)) (xs (i + 2))) = u at G ⊢
  refine lv_aload_n hx hb dL_law_191 rfl (lv_at hl 1 rfl) ?_
  refine lv_aload_n hx hb dL_law_192 rfl (lv_at hl 3 rfl) ?_
  refine lv_iload_n hx hb dL_law_193 rfl (lv_at hl 0 rfl) ?_
  refine lv_iconst (v := 1) hx hb dL_law_194 (by decide) ?_
  refine lv_iadd hx hb dL_law_195 ?_
  refine lv_lit (v := nI (i + 1)) (nI_add i 1) ?_
  refine va_sld hx hb hX hbl hbA G.2.2.2.1 (vp_in_nI (show i + 1 < L by omega) (by omega)) dL_law_196 ?_
  refine lv_lit (v := xs (i + 1)) (congrArg xs (nI_clamp (show i + 1 < 2 ^ 31 by omega))) ?_
  refine lv_aload_n hx hb dL_law_197 rfl (lv_at hl 3 rfl) ?_
  refine lv_iload_n hx hb dL_law_198 rfl (lv_at hl 0 rfl) ?_
  refine lv_iconst (v := 2) hx hb dL_law_199 (by decide) ?_
  refine lv_iadd hx hb dL_law_200 ?_
  refine lv_lit (v := nI (i + 2)) (nI_add i 2) ?_
  refine va_sld hx hb hX hbl hbA G.2.2.2.1 (vp_in_nI (show i + 2 < L by omega) (by omega)) dL_law_201 ?_
  refine lv_lit (v := xs (i + 2)) (congrArg xs (nI_clamp (show i + 2 < 2 ^ 31 by omega))) ?_
  refine k_callF (n := 2) (As := [.int (xs (i + 1)), .int (xs (i + 2))]) (rest := [.int u.1]) (st1 := .int ((s_X4_setPosition sn f pf z (xs (i + 1)) (xs (i + 2))).1) :: [.int u.1]) (ws1 := W3 cI cS x sv tl er a u.2.1 u.2.2.1 u.2.2.2.1 e n0 m0 p0 w0 s0 f0 u.2.2.2.2.1 u.2.2.2.2.2.1 u.2.2.2.2.2.2 (W4 cI y nw ad pa eA ((s_X4_setPosition sn f pf z (xs (i + 1)) (xs (i + 2))).2.1) hs ((s_X4_setPosition sn f pf z (xs (i + 1)) (xs (i + 2))).2.2.1) g ((s_X4_setPosition sn f pf z (xs (i + 1)) (xs (i + 2))).2.2.2.1) ((s_X4_setPosition sn f pf z (xs (i + 1)) (xs (i + 2))).2.2.2.2) ([]))) (W3 cI cS x sv tl er a u.2.1 u.2.2.1 u.2.2.2.1 e n0 m0 p0 w0 s0 f0 u.2.2.2.2.1 u.2.2.2.2.2.1 u.2.2.2.2.2.2 ([])) ([]) S G (c_X4_setPosition l D cI cS y nw ad pa eA sn hs f g pf z (xs (i + 1)) (xs (i + 2)) (Inv.sn I)) gL_law_X4_setPosition rfl (by decide +kernel) ⟨⟨rfl, rfl⟩, Nat.le_of_ble_eq_true rfl, Nat.le_of_ble_eq_true rfl⟩ rfl 0 rfl rfl rfl hl.1 rfl (Nat.le_of_ble_eq_true rfl) ⟨Nat.le_of_ble_eq_true rfl, Nat.le_of_ble_eq_true rfl⟩ dL_law_202 rfl rfl (fun H locs G => ?_)
  generalize hv : (s_X4_setPosition sn f pf z (xs (i + 1)) (xs (i + 2))) = v at G ⊢
  have hq := pq_setPosition I z (xs (i + 1)) (xs (i + 2))
  have hq := hq sa
  rw [hu, hv] at hq
  obtain ⟨h1, h2, I2⟩ := hq
  refine lv_icmp_eq (tgt := 717) hx hb dL_law_205 (by decide) (fun _ => ?_) (fun cc => absurd h1 cc)
  rw [← h2] at G
  exact hk _ _ ls ⟨u.2.1, u.2.2.1, u.2.2.2.1, e, n0, m0, p0, w0, s0, f0, u.2.2.2.2.1, u.2.2.2.2.2.1, u.2.2.2.2.2.2, v.2.1, hs, v.2.2.1, g, v.2.2.2.1, I2, G⟩ hl
set_option maxHeartbeats 4000000 in
set_option maxRecDepth 100000 in
/-- the law at setSilence -/
theorem law_c2 {p : Program} {l : Launch} {ev : Env} {s : State} {m : MethodId} {below : List Frame} {meth : Method} {c : Code} {b L : Nat} {xs : Nat → Int32} {D : va_G} {cI cS : ClassId} (C0 : lw_At p s m meth c b L xs) (hL : L ≤ 2048) {x sv tl er : Nat} {a : Nat → Nat} {y nw ad pa eA : Nat} (i B : Nat) (hi : i + 4 ≤ L) (hB : B ≤ 60000) (hk : ∀ (H : Heap) (locs : List Loc) (ls : Array Slot), LawSt D cI cS s x sv tl er a y nw ad pa eA (B + 100) H locs → lv_has ls 4 [(3, .int (nI i)), (2, .ref y), (1, .ref x), (0, .ref b)] → W p l ev room_1 s m #[Value.ref b] below meth c H locs 600000 7302250 (lw_Z below #[Value.ref b] s) (F0 m 717 ls [])) : ∀ (H : Heap) (locs : List Loc) (ls : Array Slot), LawSt D cI cS s x sv tl er a y nw ad pa eA B H locs → lv_has ls 4 [(3, .int (nI i)), (2, .ref y), (1, .ref x), (0, .ref b)] → W p l ev room_1 s m #[Value.ref b] below meth c H locs 600000 7302250 (lw_Z below #[Value.ref b] s) (F0 m 210 ls []) := by
  obtain ⟨hx, hb, hr, hml, hown, hts, hX, hbl, hlocks, hgv⟩ := C0
  have hts := fun w h => hts w (wsL_law_in w h)
  have hbA : ¬ (fun q : Nat => s.heap.size ≤ q) b := Nat.not_le.mpr hbl
  have S : CallFix p m c code 4 s #[Value.ref b] wsL_law RL := ⟨hx, hb, hml, hown, hts⟩
  intro H locs ls hs0 hl
  obtain ⟨sc, z, r, e, n0, m0, p0, w0, s0, f0, sa, sr, se, sn, hs, f, g, pf, I, G⟩ := hs0
  refine lv_aload_n hx hb dL_law_210 rfl (lv_at hl 2 rfl) ?_
  refine lv_aload_n hx hb dL_law_211 rfl (lv_at hl 3 rfl) ?_
  refine lv_iload_n hx hb dL_law_212 rfl (lv_at hl 0 rfl) ?_
  refine lv_iconst (v := 1) hx hb dL_law_213 (by decide) ?_
  refine lv_iadd hx hb dL_law_214 ?_
  refine lv_lit (v := nI (i + 1)) (nI_add i 1) ?_
  refine va_sld hx hb hX hbl hbA G.2.2.2.1 (vp_in_nI (show i + 1 < L by omega) (by omega)) dL_law_215 ?_
  refine lv_lit (v := xs (i + 1)) (congrArg xs (nI_clamp (show i + 1 < 2 ^ 31 by omega))) ?_
  refine lv_aload_n hx hb dL_law_216 rfl (lv_at hl 3 rfl) ?_
  refine lv_iload_n hx hb dL_law_217 rfl (lv_at hl 0 rfl) ?_
  refine lv_iconst (v := 2) hx hb dL_law_218 (by decide) ?_
  refine lv_iadd hx hb dL_law_219 ?_
  refine lv_lit (v := nI (i + 2)) (nI_add i 2) ?_
  refine va_sld hx hb hX hbl hbA G.2.2.2.1 (vp_in_nI (show i + 2 < L by omega) (by omega)) dL_law_220 ?_
  refine lv_lit (v := xs (i + 2)) (congrArg xs (nI_clamp (show i + 2 < 2 ^ 31 by omega))) ?_
  refine lv_aload_n hx hb dL_law_221 rfl (lv_at hl 3 rfl) ?_
  refine lv_iload_n hx hb dL_law_222 rfl (lv_at hl 0 rfl) ?_
  refine lv_iconst (v := 3) hx hb dL_law_223 (by decide) ?_
  refine lv_iadd hx hb dL_law_224 ?_
  refine lv_lit (v := nI (i + 3)) (nI_add i 3) ?_
  refine va_sld hx hb hX hbl hbA G.2.2.2.1 (vp_in_nI (show i + 3 < L by omega) (by omega)) dL_law_225 ?_
  refine lv_lit (v := xs (i + 3)) (congrArg xs (nI_clamp (show i + 3 < 2 ^ 31 by omega))) ?_
  refine k_callF (n := 3) (As := [.int (xs (i + 1)), .int (xs (i + 2)), .int (xs (i + 3))]) (rest := []) (st1 := .int ((s_X3_setSilence sc z r e sa sr se (xs (i + 1)) (xs (i + 2)) (xs (i + 3))).1) :: []) (ws1 := W3 cI cS x sv tl er a ((s_X3_setSilence sc z r e sa sr se (xs (i + 1)) (xs (i + 2)) (xs (i + 3))).2.1) ((s_X3_setSilence sc z r e sa sr se (xs (i + 1)) (xs (i + 2)) (xs (i + 3))).2.2.1) ((s_X3_setSilence sc z r e sa sr se (xs (i + 1)) (xs (i + 2)) (xs (i + 3))).2.2.2.1) e n0 m0 p0 w0 s0 f0 ((s_X3_setSilence sc z r e sa sr se (xs (i + 1)) (xs (i + 2)) (xs (i + 3))).2.2.2.2.1) ((s_X3_setSilence sc z r e sa sr se (xs (i + 1)) (xs (i + 2)) (xs (i + 3))).2.2.2.2.2.1) ((s_X3_setSilence sc z r e sa sr se (xs (i + 1)) (xs (i + 2)) (xs (i + 3))).2.2.2.2.2.2) (W4 cI y nw ad pa eA sn hs f g pf z ([]))) ([]) (W4 cI y nw ad pa eA sn hs f g pf z ([])) S G (c_X3_setSilence l D cI cS x sv tl er sc z a r e n0 m0 p0 w0 s0 f0 sa sr se (xs (i + 1)) (xs (i + 2)) (xs (i + 3)) (Inv.sc I)) gL_law_X3_setSilence rfl (by decide +kernel) ⟨⟨rfl, rfl⟩, Nat.le_of_ble_eq_true rfl, Nat.le_of_ble_eq_true rfl⟩ rfl 0 rfl rfl rfl hl.1 rfl (Nat.le_of_ble_eq_true rfl) ⟨Nat.le_of_ble_eq_true rfl, Nat.le_of_ble_eq_true rfl⟩ dL_law_226 rfl rfl (fun H locs G => ?_)
  generalize hu : (s_X3_setSilence sc z r e sa sr se (xs (i + 1)) (xs (i + 2)) (xs (i + 3))) = u at G ⊢
  refine lv_aload_n hx hb dL_law_229 rfl (lv_at hl 1 rfl) ?_
  refine lv_aload_n hx hb dL_law_230 rfl (lv_at hl 3 rfl) ?_
  refine lv_iload_n hx hb dL_law_231 rfl (lv_at hl 0 rfl) ?_
  refine lv_iconst (v := 1) hx hb dL_law_232 (by decide) ?_
  refine lv_iadd hx hb dL_law_233 ?_
  refine lv_lit (v := nI (i + 1)) (nI_add i 1) ?_
  refine va_sld hx hb hX hbl hbA G.2.2.2.1 (vp_in_nI (show i + 1 < L by omega) (by omega)) dL_law_234 ?_
  refine lv_lit (v := xs (i + 1)) (congrArg xs (nI_clamp (show i + 1 < 2 ^ 31 by omega))) ?_
  refine lv_aload_n hx hb dL_law_235 rfl (lv_at hl 3 rfl) ?_
  refine lv_iload_n hx hb dL_law_236 rfl (lv_at hl 0 rfl) ?_
  refine lv_iconst (v := 2) hx hb dL_law_237 (by decide) ?_
  refine lv_iadd hx hb dL_law_238 ?_
  refine lv_lit (v := nI (i + 2)) (nI_add i 2) ?_
  refine va_sld hx hb hX hbl hbA G.2.2.2.1 (vp_in_nI (show i + 2 < L by omega) (by omega)) dL_law_239 ?_
  refine lv_lit (v := xs (i + 2)) (congrArg xs (nI_clamp (show i + 2 < 2 ^ 31 by omega))) ?_
  refine lv_aload_n hx hb dL_law_240 rfl (lv_at hl 3 rfl) ?_
  refine lv_iload_n hx hb dL_law_241 rfl (lv_at hl 0 rfl) ?_
  refine lv_iconst (v := 3) hx hb dL_law_242 (by decide) ?_
  refine lv_iadd hx hb dL_law_243 ?_
  refine lv_lit (v := nI (i + 3)) (nI_add i 3) ?_
  refine va_sld hx hb hX hbl hbA G.2.2.2.1 (vp_in_nI (show i + 3 < L by omega) (by omega)) dL_law_244 ?_
  refine lv_lit (v := xs (i + 3)) (congrArg xs (nI_clamp (show i + 3 < 2 ^ 31 by omega))) ?_
  refine k_callF (n := 3) (As := [.int (xs (i + 1)), .int (xs (i + 2)), .int (xs (i + 3))]) (rest := [.int u.1]) (st1 := .int ((s_X4_setSilence sn f pf z (xs (i + 1)) (xs (i + 2)) (xs (i + 3))).1) :: [.int u.1]) (ws1 := W3 cI cS x sv tl er a u.2.1 u.2.2.1 u.2.2.2.1 e n0 m0 p0 w0 s0 f0 u.2.2.2.2.1 u.2.2.2.2.2.1 u.2.2.2.2.2.2 (W4 cI y nw ad pa eA ((s_X4_setSilence sn f pf z (xs (i + 1)) (xs (i + 2)) (xs (i + 3))).2.1) hs ((s_X4_setSilence sn f pf z (xs (i + 1)) (xs (i + 2)) (xs (i + 3))).2.2.1) g ((s_X4_setSilence sn f pf z (xs (i + 1)) (xs (i + 2)) (xs (i + 3))).2.2.2.1) ((s_X4_setSilence sn f pf z (xs (i + 1)) (xs (i + 2)) (xs (i + 3))).2.2.2.2) ([]))) (W3 cI cS x sv tl er a u.2.1 u.2.2.1 u.2.2.2.1 e n0 m0 p0 w0 s0 f0 u.2.2.2.2.1 u.2.2.2.2.2.1 u.2.2.2.2.2.2 ([])) ([]) S G (c_X4_setSilence l D cI cS y nw ad pa eA sn hs f g pf z (xs (i + 1)) (xs (i + 2)) (xs (i + 3)) (Inv.sn I)) gL_law_X4_setSilence rfl (by decide +kernel) ⟨⟨rfl, rfl⟩, Nat.le_of_ble_eq_true rfl, Nat.le_of_ble_eq_true rfl⟩ rfl 0 rfl rfl rfl hl.1 rfl (Nat.le_of_ble_eq_true rfl) ⟨Nat.le_of_ble_eq_true rfl, Nat.le_of_ble_eq_true rfl⟩ dL_law_245 rfl rfl (fun H locs G => ?_)
  generalize hv : (s_X4_setSilence sn f pf z (xs (i + 1)) (xs (i + 2)) (xs (i + 3))) = v at G ⊢
  have hq := pq_setSilence I z (xs (i + 1)) (xs (i + 2)) (xs (i + 3))
  have hq := hq sa
  rw [hu, hv] at hq
  obtain ⟨h1, h2, I2⟩ := hq
  refine lv_icmp_eq (tgt := 717) hx hb dL_law_248 (by decide) (fun _ => ?_) (fun cc => absurd h1 cc)
  rw [← h2] at G
  exact hk _ _ ls ⟨u.2.1, u.2.2.1, u.2.2.2.1, e, n0, m0, p0, w0, s0, f0, u.2.2.2.2.1, u.2.2.2.2.2.1, u.2.2.2.2.2.2, v.2.1, hs, v.2.2.1, g, v.2.2.2.1, I2, G⟩ hl
set_option maxHeartbeats 4000000 in
set_option maxRecDepth 100000 in
/-- the law at wind -/
theorem law_c3 {p : Program} {l : Launch} {ev : Env} {s : State} {m : MethodId} {below : List Frame} {meth : Method} {c : Code} {b L : Nat} {xs : Nat → Int32} {D : va_G} {cI cS : ClassId} (C0 : lw_At p s m meth c b L xs) (hL : L ≤ 2048) {x sv tl er : Nat} {a : Nat → Nat} {y nw ad pa eA : Nat} (i B : Nat) (hi : i + 4 ≤ L) (hB : B ≤ 60000) (hk : ∀ (H : Heap) (locs : List Loc) (ls : Array Slot), LawSt D cI cS s x sv tl er a y nw ad pa eA (B + 100) H locs → lv_has ls 4 [(3, .int (nI i)), (2, .ref y), (1, .ref x), (0, .ref b)] → W p l ev room_1 s m #[Value.ref b] below meth c H locs 600000 7302250 (lw_Z below #[Value.ref b] s) (F0 m 717 ls [])) : ∀ (H : Heap) (locs : List Loc) (ls : Array Slot), LawSt D cI cS s x sv tl er a y nw ad pa eA B H locs → lv_has ls 4 [(3, .int (nI i)), (2, .ref y), (1, .ref x), (0, .ref b)] → W p l ev room_1 s m #[Value.ref b] below meth c H locs 600000 7302250 (lw_Z below #[Value.ref b] s) (F0 m 253 ls []) := by
  obtain ⟨hx, hb, hr, hml, hown, hts, hX, hbl, hlocks, hgv⟩ := C0
  have hts := fun w h => hts w (wsL_law_in w h)
  have hbA : ¬ (fun q : Nat => s.heap.size ≤ q) b := Nat.not_le.mpr hbl
  have S : CallFix p m c code 4 s #[Value.ref b] wsL_law RL := ⟨hx, hb, hml, hown, hts⟩
  intro H locs ls hs0 hl
  obtain ⟨sc, z, r, e, n0, m0, p0, w0, s0, f0, sa, sr, se, sn, hs, f, g, pf, I, G⟩ := hs0
  refine lv_aload_n hx hb dL_law_253 rfl (lv_at hl 2 rfl) ?_
  refine lv_aload_n hx hb dL_law_254 rfl (lv_at hl 3 rfl) ?_
  refine lv_iload_n hx hb dL_law_255 rfl (lv_at hl 0 rfl) ?_
  refine lv_iconst (v := 1) hx hb dL_law_256 (by decide) ?_
  refine lv_iadd hx hb dL_law_257 ?_
  refine lv_lit (v := nI (i + 1)) (nI_add i 1) ?_
  refine va_sld hx hb hX hbl hbA G.2.2.2.1 (vp_in_nI (show i + 1 < L by omega) (by omega)) dL_law_258 ?_
  refine lv_lit (v := xs (i + 1)) (congrArg xs (nI_clamp (show i + 1 < 2 ^ 31 by omega))) ?_
  refine lv_aload_n hx hb dL_law_259 rfl (lv_at hl 3 rfl) ?_
  refine lv_iload_n hx hb dL_law_260 rfl (lv_at hl 0 rfl) ?_
  refine lv_iconst (v := 2) hx hb dL_law_261 (by decide) ?_
  refine lv_iadd hx hb dL_law_262 ?_
  refine lv_lit (v := nI (i + 2)) (nI_add i 2) ?_
  refine va_sld hx hb hX hbl hbA G.2.2.2.1 (vp_in_nI (show i + 2 < L by omega) (by omega)) dL_law_263 ?_
  refine lv_lit (v := xs (i + 2)) (congrArg xs (nI_clamp (show i + 2 < 2 ^ 31 by omega))) ?_
  refine k_callF (n := 2) (As := [.int (xs (i + 1)), .int (xs (i + 2))]) (rest := []) (st1 := .int ((s_X3_wind sc z r e sa sr se (xs (i + 1)) (xs (i + 2))).1) :: []) (ws1 := W3 cI cS x sv tl er a ((s_X3_wind sc z r e sa sr se (xs (i + 1)) (xs (i + 2))).2.1) ((s_X3_wind sc z r e sa sr se (xs (i + 1)) (xs (i + 2))).2.2.1) ((s_X3_wind sc z r e sa sr se (xs (i + 1)) (xs (i + 2))).2.2.2.1) e n0 m0 p0 w0 s0 f0 ((s_X3_wind sc z r e sa sr se (xs (i + 1)) (xs (i + 2))).2.2.2.2.1) ((s_X3_wind sc z r e sa sr se (xs (i + 1)) (xs (i + 2))).2.2.2.2.2.1) ((s_X3_wind sc z r e sa sr se (xs (i + 1)) (xs (i + 2))).2.2.2.2.2.2) (W4 cI y nw ad pa eA sn hs f g pf z ([]))) ([]) (W4 cI y nw ad pa eA sn hs f g pf z ([])) S G (c_X3_wind l D cI cS x sv tl er sc z a r e n0 m0 p0 w0 s0 f0 sa sr se (xs (i + 1)) (xs (i + 2)) (Inv.sc I)) gL_law_X3_wind rfl (by decide +kernel) ⟨⟨rfl, rfl⟩, Nat.le_of_ble_eq_true rfl, Nat.le_of_ble_eq_true rfl⟩ rfl 0 rfl rfl rfl hl.1 rfl (Nat.le_of_ble_eq_true rfl) ⟨Nat.le_of_ble_eq_true rfl, Nat.le_of_ble_eq_true rfl⟩ dL_law_264 rfl rfl (fun H locs G => ?_)
  generalize hu : (s_X3_wind sc z r e sa sr se (xs (i + 1)) (xs (i + 2))) = u at G ⊢
  refine lv_aload_n hx hb dL_law_267 rfl (lv_at hl 1 rfl) ?_
  refine lv_aload_n hx hb dL_law_268 rfl (lv_at hl 3 rfl) ?_
  refine lv_iload_n hx hb dL_law_269 rfl (lv_at hl 0 rfl) ?_
  refine lv_iconst (v := 1) hx hb dL_law_270 (by decide) ?_
  refine lv_iadd hx hb dL_law_271 ?_
  refine lv_lit (v := nI (i + 1)) (nI_add i 1) ?_
  refine va_sld hx hb hX hbl hbA G.2.2.2.1 (vp_in_nI (show i + 1 < L by omega) (by omega)) dL_law_272 ?_
  refine lv_lit (v := xs (i + 1)) (congrArg xs (nI_clamp (show i + 1 < 2 ^ 31 by omega))) ?_
  refine lv_aload_n hx hb dL_law_273 rfl (lv_at hl 3 rfl) ?_
  refine lv_iload_n hx hb dL_law_274 rfl (lv_at hl 0 rfl) ?_
  refine lv_iconst (v := 2) hx hb dL_law_275 (by decide) ?_
  refine lv_iadd hx hb dL_law_276 ?_
  refine lv_lit (v := nI (i + 2)) (nI_add i 2) ?_
  refine va_sld hx hb hX hbl hbA G.2.2.2.1 (vp_in_nI (show i + 2 < L by omega) (by omega)) dL_law_277 ?_
  refine lv_lit (v := xs (i + 2)) (congrArg xs (nI_clamp (show i + 2 < 2 ^ 31 by omega))) ?_
  refine k_callF (n := 2) (As := [.int (xs (i + 1)), .int (xs (i + 2))]) (rest := [.int u.1]) (st1 := .int ((s_X4_wind sn f pf z (xs (i + 1)) (xs (i + 2))).1) :: [.int u.1]) (ws1 := W3 cI cS x sv tl er a u.2.1 u.2.2.1 u.2.2.2.1 e n0 m0 p0 w0 s0 f0 u.2.2.2.2.1 u.2.2.2.2.2.1 u.2.2.2.2.2.2 (W4 cI y nw ad pa eA ((s_X4_wind sn f pf z (xs (i + 1)) (xs (i + 2))).2.1) hs ((s_X4_wind sn f pf z (xs (i + 1)) (xs (i + 2))).2.2.1) g ((s_X4_wind sn f pf z (xs (i + 1)) (xs (i + 2))).2.2.2.1) ((s_X4_wind sn f pf z (xs (i + 1)) (xs (i + 2))).2.2.2.2) ([]))) (W3 cI cS x sv tl er a u.2.1 u.2.2.1 u.2.2.2.1 e n0 m0 p0 w0 s0 f0 u.2.2.2.2.1 u.2.2.2.2.2.1 u.2.2.2.2.2.2 ([])) ([]) S G (c_X4_wind l D cI cS y nw ad pa eA sn hs f g pf z (xs (i + 1)) (xs (i + 2)) (Inv.sn I)) gL_law_X4_wind rfl (by decide +kernel) ⟨⟨rfl, rfl⟩, Nat.le_of_ble_eq_true rfl, Nat.le_of_ble_eq_true rfl⟩ rfl 0 rfl rfl rfl hl.1 rfl (Nat.le_of_ble_eq_true rfl) ⟨Nat.le_of_ble_eq_true rfl, Nat.le_of_ble_eq_true rfl⟩ dL_law_278 rfl rfl (fun H locs G => ?_)
  generalize hv : (s_X4_wind sn f pf z (xs (i + 1)) (xs (i + 2))) = v at G ⊢
  have hq := pq_wind I z (xs (i + 1)) (xs (i + 2))
  have hq := hq sa
  rw [hu, hv] at hq
  obtain ⟨h1, h2, I2⟩ := hq
  refine lv_icmp_eq (tgt := 717) hx hb dL_law_281 (by decide) (fun _ => ?_) (fun cc => absurd h1 cc)
  rw [← h2] at G
  exact hk _ _ ls ⟨u.2.1, u.2.2.1, u.2.2.2.1, e, n0, m0, p0, w0, s0, f0, u.2.2.2.2.1, u.2.2.2.2.2.1, u.2.2.2.2.2.2, v.2.1, hs, v.2.2.1, g, v.2.2.2.1, I2, G⟩ hl
set_option maxHeartbeats 4000000 in
set_option maxRecDepth 100000 in
/-- the law at run -/
theorem law_c4 {p : Program} {l : Launch} {ev : Env} {s : State} {m : MethodId} {below : List Frame} {meth : Method} {c : Code} {b L : Nat} {xs : Nat → Int32} {D : va_G} {cI cS : ClassId} (C0 : lw_At p s m meth c b L xs) (hL : L ≤ 2048) {x sv tl er : Nat} {a : Nat → Nat} {y nw ad pa eA : Nat} (i B : Nat) (hi : i + 4 ≤ L) (hB : B ≤ 60000) (hk : ∀ (H : Heap) (locs : List Loc) (ls : Array Slot), LawSt D cI cS s x sv tl er a y nw ad pa eA (B + 100) H locs → lv_has ls 4 [(3, .int (nI i)), (2, .ref y), (1, .ref x), (0, .ref b)] → W p l ev room_1 s m #[Value.ref b] below meth c H locs 600000 7302250 (lw_Z below #[Value.ref b] s) (F0 m 717 ls [])) : ∀ (H : Heap) (locs : List Loc) (ls : Array Slot), LawSt D cI cS s x sv tl er a y nw ad pa eA B H locs → lv_has ls 4 [(3, .int (nI i)), (2, .ref y), (1, .ref x), (0, .ref b)] → W p l ev room_1 s m #[Value.ref b] below meth c H locs 600000 7302250 (lw_Z below #[Value.ref b] s) (F0 m 286 ls []) := by
  obtain ⟨hx, hb, hr, hml, hown, hts, hX, hbl, hlocks, hgv⟩ := C0
  have hts := fun w h => hts w (wsL_law_in w h)
  have hbA : ¬ (fun q : Nat => s.heap.size ≤ q) b := Nat.not_le.mpr hbl
  have S : CallFix p m c code 4 s #[Value.ref b] wsL_law RL := ⟨hx, hb, hml, hown, hts⟩
  intro H locs ls hs0 hl
  obtain ⟨sc, z, r, e, n0, m0, p0, w0, s0, f0, sa, sr, se, sn, hs, f, g, pf, I, G⟩ := hs0
  refine lv_aload_n hx hb dL_law_286 rfl (lv_at hl 2 rfl) ?_
  refine lv_aload_n hx hb dL_law_287 rfl (lv_at hl 3 rfl) ?_
  refine lv_iload_n hx hb dL_law_288 rfl (lv_at hl 0 rfl) ?_
  refine lv_iconst (v := 1) hx hb dL_law_289 (by decide) ?_
  refine lv_iadd hx hb dL_law_290 ?_
  refine lv_lit (v := nI (i + 1)) (nI_add i 1) ?_
  refine va_sld hx hb hX hbl hbA G.2.2.2.1 (vp_in_nI (show i + 1 < L by omega) (by omega)) dL_law_291 ?_
  refine lv_lit (v := xs (i + 1)) (congrArg xs (nI_clamp (show i + 1 < 2 ^ 31 by omega))) ?_
  refine k_callF (n := 1) (As := [.int (xs (i + 1))]) (rest := []) (st1 := .int ((s_X3_run sc z r e sa sr se (xs (i + 1))).1) :: []) (ws1 := W3 cI cS x sv tl er a ((s_X3_run sc z r e sa sr se (xs (i + 1))).2.1) ((s_X3_run sc z r e sa sr se (xs (i + 1))).2.2.1) ((s_X3_run sc z r e sa sr se (xs (i + 1))).2.2.2.1) ((s_X3_run sc z r e sa sr se (xs (i + 1))).2.2.2.2.1) n0 m0 p0 w0 s0 f0 ((s_X3_run sc z r e sa sr se (xs (i + 1))).2.2.2.2.2.1) ((s_X3_run sc z r e sa sr se (xs (i + 1))).2.2.2.2.2.2.1) ((s_X3_run sc z r e sa sr se (xs (i + 1))).2.2.2.2.2.2.2) (W4 cI y nw ad pa eA sn hs f g pf z ([]))) ([]) (W4 cI y nw ad pa eA sn hs f g pf z ([])) S G (c_X3_run l D cI cS x sv tl er sc z a r e n0 m0 p0 w0 s0 f0 sa sr se (xs (i + 1)) (Inv.sc I) (fun _ _ => Inv.r0 I)) gL_law_X3_run rfl (by decide +kernel) ⟨⟨rfl, rfl⟩, Nat.le_of_ble_eq_true rfl, Nat.le_of_ble_eq_true rfl⟩ rfl 0 rfl rfl rfl hl.1 rfl (Nat.le_of_ble_eq_true rfl) ⟨Nat.le_of_ble_eq_true rfl, Nat.le_of_ble_eq_true rfl⟩ dL_law_292 rfl rfl (fun H locs G => ?_)
  generalize hu : (s_X3_run sc z r e sa sr se (xs (i + 1))) = u at G ⊢
  refine lv_aload_n hx hb dL_law_295 rfl (lv_at hl 1 rfl) ?_
  refine lv_aload_n hx hb dL_law_296 rfl (lv_at hl 3 rfl) ?_
  refine lv_iload_n hx hb dL_law_297 rfl (lv_at hl 0 rfl) ?_
  refine lv_iconst (v := 1) hx hb dL_law_298 (by decide) ?_
  refine lv_iadd hx hb dL_law_299 ?_
  refine lv_lit (v := nI (i + 1)) (nI_add i 1) ?_
  refine va_sld hx hb hX hbl hbA G.2.2.2.1 (vp_in_nI (show i + 1 < L by omega) (by omega)) dL_law_300 ?_
  refine lv_lit (v := xs (i + 1)) (congrArg xs (nI_clamp (show i + 1 < 2 ^ 31 by omega))) ?_
  refine k_callF (n := 1) (As := [.int (xs (i + 1))]) (rest := [.int u.1]) (st1 := .int ((s_X4_run sn f pf z (xs (i + 1))).1) :: [.int u.1]) (ws1 := W3 cI cS x sv tl er a u.2.1 u.2.2.1 u.2.2.2.1 u.2.2.2.2.1 n0 m0 p0 w0 s0 f0 u.2.2.2.2.2.1 u.2.2.2.2.2.2.1 u.2.2.2.2.2.2.2 (W4 cI y nw ad pa eA ((s_X4_run sn f pf z (xs (i + 1))).2.1) hs ((s_X4_run sn f pf z (xs (i + 1))).2.2.1) g ((s_X4_run sn f pf z (xs (i + 1))).2.2.2.1) ((s_X4_run sn f pf z (xs (i + 1))).2.2.2.2) ([]))) (W3 cI cS x sv tl er a u.2.1 u.2.2.1 u.2.2.2.1 u.2.2.2.2.1 n0 m0 p0 w0 s0 f0 u.2.2.2.2.2.1 u.2.2.2.2.2.2.1 u.2.2.2.2.2.2.2 ([])) ([]) S G (c_X4_run l D cI cS y nw ad pa eA sn hs f g pf z (xs (i + 1)) (Inv.sn I)) gL_law_X4_run rfl (by decide +kernel) ⟨⟨rfl, rfl⟩, Nat.le_of_ble_eq_true rfl, Nat.le_of_ble_eq_true rfl⟩ rfl 0 rfl rfl rfl hl.1 rfl (Nat.le_of_ble_eq_true rfl) ⟨Nat.le_of_ble_eq_true rfl, Nat.le_of_ble_eq_true rfl⟩ dL_law_301 rfl rfl (fun H locs G => ?_)
  generalize hv : (s_X4_run sn f pf z (xs (i + 1))) = v at G ⊢
  have hq := pq_run I z (xs (i + 1))
  have hq := hq sa
  have hq := hq hB
  rw [hu, hv] at hq
  obtain ⟨h1, h2, I2⟩ := hq
  refine lv_icmp_eq (tgt := 717) hx hb dL_law_304 (by decide) (fun _ => ?_) (fun cc => absurd h1 cc)
  rw [← h2] at G
  exact hk _ _ ls ⟨u.2.1, u.2.2.1, u.2.2.2.1, u.2.2.2.2.1, n0, m0, p0, w0, s0, f0, u.2.2.2.2.2.1, u.2.2.2.2.2.2.1, u.2.2.2.2.2.2.2, v.2.1, hs, v.2.2.1, g, v.2.2.2.1, I2, G⟩ hl
set_option maxHeartbeats 4000000 in
set_option maxRecDepth 100000 in
/-- the law at setHands -/
theorem law_c5 {p : Program} {l : Launch} {ev : Env} {s : State} {m : MethodId} {below : List Frame} {meth : Method} {c : Code} {b L : Nat} {xs : Nat → Int32} {D : va_G} {cI cS : ClassId} (C0 : lw_At p s m meth c b L xs) (hL : L ≤ 2048) {x sv tl er : Nat} {a : Nat → Nat} {y nw ad pa eA : Nat} (i B : Nat) (hi : i + 4 ≤ L) (hB : B ≤ 60000) (hk : ∀ (H : Heap) (locs : List Loc) (ls : Array Slot), LawSt D cI cS s x sv tl er a y nw ad pa eA (B + 100) H locs → lv_has ls 4 [(3, .int (nI i)), (2, .ref y), (1, .ref x), (0, .ref b)] → W p l ev room_1 s m #[Value.ref b] below meth c H locs 600000 7302250 (lw_Z below #[Value.ref b] s) (F0 m 717 ls [])) : ∀ (H : Heap) (locs : List Loc) (ls : Array Slot), LawSt D cI cS s x sv tl er a y nw ad pa eA B H locs → lv_has ls 4 [(3, .int (nI i)), (2, .ref y), (1, .ref x), (0, .ref b)] → W p l ev room_1 s m #[Value.ref b] below meth c H locs 600000 7302250 (lw_Z below #[Value.ref b] s) (F0 m 309 ls []) := by
  obtain ⟨hx, hb, hr, hml, hown, hts, hX, hbl, hlocks, hgv⟩ := C0
  have hts := fun w h => hts w (wsL_law_in w h)
  have hbA : ¬ (fun q : Nat => s.heap.size ≤ q) b := Nat.not_le.mpr hbl
  have S : CallFix p m c code 4 s #[Value.ref b] wsL_law RL := ⟨hx, hb, hml, hown, hts⟩
  intro H locs ls hs0 hl
  obtain ⟨sc, z, r, e, n0, m0, p0, w0, s0, f0, sa, sr, se, sn, hs, f, g, pf, I, G⟩ := hs0
  refine lv_aload_n hx hb dL_law_309 rfl (lv_at hl 2 rfl) ?_
  refine lv_aload_n hx hb dL_law_310 rfl (lv_at hl 3 rfl) ?_
  refine lv_iload_n hx hb dL_law_311 rfl (lv_at hl 0 rfl) ?_
  refine lv_iconst (v := 1) hx hb dL_law_312 (by decide) ?_
  refine lv_iadd hx hb dL_law_313 ?_
  refine lv_lit (v := nI (i + 1)) (nI_add i 1) ?_
  refine va_sld hx hb hX hbl hbA G.2.2.2.1 (vp_in_nI (show i + 1 < L by omega) (by omega)) dL_law_314 ?_
  refine lv_lit (v := xs (i + 1)) (congrArg xs (nI_clamp (show i + 1 < 2 ^ 31 by omega))) ?_
  refine k_callF (n := 1) (As := [.int (xs (i + 1))]) (rest := []) (st1 := .int ((s_X3_setHands sc z r e sa sr se (xs (i + 1))).1) :: []) (ws1 := W3 cI cS x sv tl er a ((s_X3_setHands sc z r e sa sr se (xs (i + 1))).2.1) ((s_X3_setHands sc z r e sa sr se (xs (i + 1))).2.2.1) ((s_X3_setHands sc z r e sa sr se (xs (i + 1))).2.2.2.1) e n0 m0 p0 w0 s0 f0 ((s_X3_setHands sc z r e sa sr se (xs (i + 1))).2.2.2.2.1) ((s_X3_setHands sc z r e sa sr se (xs (i + 1))).2.2.2.2.2.1) ((s_X3_setHands sc z r e sa sr se (xs (i + 1))).2.2.2.2.2.2) (W4 cI y nw ad pa eA sn hs f g pf z ([]))) ([]) (W4 cI y nw ad pa eA sn hs f g pf z ([])) S G (c_X3_setHands l D cI cS x sv tl er sc z a r e n0 m0 p0 w0 s0 f0 sa sr se (xs (i + 1)) (Inv.sc I)) gL_law_X3_setHands rfl (by decide +kernel) ⟨⟨rfl, rfl⟩, Nat.le_of_ble_eq_true rfl, Nat.le_of_ble_eq_true rfl⟩ rfl 0 rfl rfl rfl hl.1 rfl (Nat.le_of_ble_eq_true rfl) ⟨Nat.le_of_ble_eq_true rfl, Nat.le_of_ble_eq_true rfl⟩ dL_law_315 rfl rfl (fun H locs G => ?_)
  generalize hu : (s_X3_setHands sc z r e sa sr se (xs (i + 1))) = u at G ⊢
  refine lv_aload_n hx hb dL_law_318 rfl (lv_at hl 1 rfl) ?_
  refine lv_aload_n hx hb dL_law_319 rfl (lv_at hl 3 rfl) ?_
  refine lv_iload_n hx hb dL_law_320 rfl (lv_at hl 0 rfl) ?_
  refine lv_iconst (v := 1) hx hb dL_law_321 (by decide) ?_
  refine lv_iadd hx hb dL_law_322 ?_
  refine lv_lit (v := nI (i + 1)) (nI_add i 1) ?_
  refine va_sld hx hb hX hbl hbA G.2.2.2.1 (vp_in_nI (show i + 1 < L by omega) (by omega)) dL_law_323 ?_
  refine lv_lit (v := xs (i + 1)) (congrArg xs (nI_clamp (show i + 1 < 2 ^ 31 by omega))) ?_
  refine k_callF (n := 1) (As := [.int (xs (i + 1))]) (rest := [.int u.1]) (st1 := .int ((s_X4_setHands sn f pf z (xs (i + 1))).1) :: [.int u.1]) (ws1 := W3 cI cS x sv tl er a u.2.1 u.2.2.1 u.2.2.2.1 e n0 m0 p0 w0 s0 f0 u.2.2.2.2.1 u.2.2.2.2.2.1 u.2.2.2.2.2.2 (W4 cI y nw ad pa eA ((s_X4_setHands sn f pf z (xs (i + 1))).2.1) hs ((s_X4_setHands sn f pf z (xs (i + 1))).2.2.1) g ((s_X4_setHands sn f pf z (xs (i + 1))).2.2.2.1) ((s_X4_setHands sn f pf z (xs (i + 1))).2.2.2.2) ([]))) (W3 cI cS x sv tl er a u.2.1 u.2.2.1 u.2.2.2.1 e n0 m0 p0 w0 s0 f0 u.2.2.2.2.1 u.2.2.2.2.2.1 u.2.2.2.2.2.2 ([])) ([]) S G (c_X4_setHands l D cI cS y nw ad pa eA sn hs f g pf z (xs (i + 1)) (Inv.sn I)) gL_law_X4_setHands rfl (by decide +kernel) ⟨⟨rfl, rfl⟩, Nat.le_of_ble_eq_true rfl, Nat.le_of_ble_eq_true rfl⟩ rfl 0 rfl rfl rfl hl.1 rfl (Nat.le_of_ble_eq_true rfl) ⟨Nat.le_of_ble_eq_true rfl, Nat.le_of_ble_eq_true rfl⟩ dL_law_324 rfl rfl (fun H locs G => ?_)
  generalize hv : (s_X4_setHands sn f pf z (xs (i + 1))) = v at G ⊢
  have hq := pq_setHands I z (xs (i + 1))
  have hq := hq sa
  rw [hu, hv] at hq
  obtain ⟨h1, h2, I2⟩ := hq
  refine lv_icmp_eq (tgt := 717) hx hb dL_law_327 (by decide) (fun _ => ?_) (fun cc => absurd h1 cc)
  rw [← h2] at G
  exact hk _ _ ls ⟨u.2.1, u.2.2.1, u.2.2.2.1, e, n0, m0, p0, w0, s0, f0, u.2.2.2.2.1, u.2.2.2.2.2.1, u.2.2.2.2.2.2, v.2.1, hs, v.2.2.1, g, v.2.2.2.1, I2, G⟩ hl
set_option maxHeartbeats 4000000 in
set_option maxRecDepth 100000 in
/-- the law at trip -/
theorem law_c6 {p : Program} {l : Launch} {ev : Env} {s : State} {m : MethodId} {below : List Frame} {meth : Method} {c : Code} {b L : Nat} {xs : Nat → Int32} {D : va_G} {cI cS : ClassId} (C0 : lw_At p s m meth c b L xs) (hL : L ≤ 2048) {x sv tl er : Nat} {a : Nat → Nat} {y nw ad pa eA : Nat} (i B : Nat) (hi : i + 4 ≤ L) (hB : B ≤ 60000) (hk : ∀ (H : Heap) (locs : List Loc) (ls : Array Slot), LawSt D cI cS s x sv tl er a y nw ad pa eA (B + 100) H locs → lv_has ls 4 [(3, .int (nI i)), (2, .ref y), (1, .ref x), (0, .ref b)] → W p l ev room_1 s m #[Value.ref b] below meth c H locs 600000 7302250 (lw_Z below #[Value.ref b] s) (F0 m 717 ls [])) : ∀ (H : Heap) (locs : List Loc) (ls : Array Slot), LawSt D cI cS s x sv tl er a y nw ad pa eA B H locs → lv_has ls 4 [(3, .int (nI i)), (2, .ref y), (1, .ref x), (0, .ref b)] → W p l ev room_1 s m #[Value.ref b] below meth c H locs 600000 7302250 (lw_Z below #[Value.ref b] s) (F0 m 332 ls []) := by
  obtain ⟨hx, hb, hr, hml, hown, hts, hX, hbl, hlocks, hgv⟩ := C0
  have hts := fun w h => hts w (wsL_law_in w h)
  have hbA : ¬ (fun q : Nat => s.heap.size ≤ q) b := Nat.not_le.mpr hbl
  have S : CallFix p m c code 4 s #[Value.ref b] wsL_law RL := ⟨hx, hb, hml, hown, hts⟩
  intro H locs ls hs0 hl
  obtain ⟨sc, z, r, e, n0, m0, p0, w0, s0, f0, sa, sr, se, sn, hs, f, g, pf, I, G⟩ := hs0
  refine lv_aload_n hx hb dL_law_332 rfl (lv_at hl 2 rfl) ?_
  refine lv_aload_n hx hb dL_law_333 rfl (lv_at hl 3 rfl) ?_
  refine lv_iload_n hx hb dL_law_334 rfl (lv_at hl 0 rfl) ?_
  refine lv_iconst (v := 1) hx hb dL_law_335 (by decide) ?_
  refine lv_iadd hx hb dL_law_336 ?_
  refine lv_lit (v := nI (i + 1)) (nI_add i 1) ?_
  refine va_sld hx hb hX hbl hbA G.2.2.2.1 (vp_in_nI (show i + 1 < L by omega) (by omega)) dL_law_337 ?_
  refine lv_lit (v := xs (i + 1)) (congrArg xs (nI_clamp (show i + 1 < 2 ^ 31 by omega))) ?_
  refine k_callF (n := 1) (As := [.int (xs (i + 1))]) (rest := []) (st1 := .int ((s_X3_trip sc z r e sa sr se (xs (i + 1))).1) :: []) (ws1 := W3 cI cS x sv tl er a ((s_X3_trip sc z r e sa sr se (xs (i + 1))).2.1) ((s_X3_trip sc z r e sa sr se (xs (i + 1))).2.2.1) ((s_X3_trip sc z r e sa sr se (xs (i + 1))).2.2.2.1) ((s_X3_trip sc z r e sa sr se (xs (i + 1))).2.2.2.2.1) n0 m0 p0 w0 s0 f0 ((s_X3_trip sc z r e sa sr se (xs (i + 1))).2.2.2.2.2.1) ((s_X3_trip sc z r e sa sr se (xs (i + 1))).2.2.2.2.2.2.1) ((s_X3_trip sc z r e sa sr se (xs (i + 1))).2.2.2.2.2.2.2) (W4 cI y nw ad pa eA sn hs f g pf z ([]))) ([]) (W4 cI y nw ad pa eA sn hs f g pf z ([])) S G (c_X3_trip l D cI cS x sv tl er sc z a r e n0 m0 p0 w0 s0 f0 sa sr se (xs (i + 1)) (Inv.sc I)) gL_law_X3_trip rfl (by decide +kernel) ⟨⟨rfl, rfl⟩, Nat.le_of_ble_eq_true rfl, Nat.le_of_ble_eq_true rfl⟩ rfl 0 rfl rfl rfl hl.1 rfl (Nat.le_of_ble_eq_true rfl) ⟨Nat.le_of_ble_eq_true rfl, Nat.le_of_ble_eq_true rfl⟩ dL_law_338 rfl rfl (fun H locs G => ?_)
  generalize hu : (s_X3_trip sc z r e sa sr se (xs (i + 1))) = u at G ⊢
  refine lv_aload_n hx hb dL_law_341 rfl (lv_at hl 1 rfl) ?_
  refine lv_aload_n hx hb dL_law_342 rfl (lv_at hl 3 rfl) ?_
  refine lv_iload_n hx hb dL_law_343 rfl (lv_at hl 0 rfl) ?_
  refine lv_iconst (v := 1) hx hb dL_law_344 (by decide) ?_
  refine lv_iadd hx hb dL_law_345 ?_
  refine lv_lit (v := nI (i + 1)) (nI_add i 1) ?_
  refine va_sld hx hb hX hbl hbA G.2.2.2.1 (vp_in_nI (show i + 1 < L by omega) (by omega)) dL_law_346 ?_
  refine lv_lit (v := xs (i + 1)) (congrArg xs (nI_clamp (show i + 1 < 2 ^ 31 by omega))) ?_
  refine k_callF (n := 1) (As := [.int (xs (i + 1))]) (rest := [.int u.1]) (st1 := .int ((s_X4_trip sn f pf z (xs (i + 1))).1) :: [.int u.1]) (ws1 := W3 cI cS x sv tl er a u.2.1 u.2.2.1 u.2.2.2.1 u.2.2.2.2.1 n0 m0 p0 w0 s0 f0 u.2.2.2.2.2.1 u.2.2.2.2.2.2.1 u.2.2.2.2.2.2.2 (W4 cI y nw ad pa eA ((s_X4_trip sn f pf z (xs (i + 1))).2.1) hs ((s_X4_trip sn f pf z (xs (i + 1))).2.2.1) g ((s_X4_trip sn f pf z (xs (i + 1))).2.2.2.1) ((s_X4_trip sn f pf z (xs (i + 1))).2.2.2.2) ([]))) (W3 cI cS x sv tl er a u.2.1 u.2.2.1 u.2.2.2.1 u.2.2.2.2.1 n0 m0 p0 w0 s0 f0 u.2.2.2.2.2.1 u.2.2.2.2.2.2.1 u.2.2.2.2.2.2.2 ([])) ([]) S G (c_X4_trip l D cI cS y nw ad pa eA sn hs f g pf z (xs (i + 1)) (Inv.sn I)) gL_law_X4_trip rfl (by decide +kernel) ⟨⟨rfl, rfl⟩, Nat.le_of_ble_eq_true rfl, Nat.le_of_ble_eq_true rfl⟩ rfl 0 rfl rfl rfl hl.1 rfl (Nat.le_of_ble_eq_true rfl) ⟨Nat.le_of_ble_eq_true rfl, Nat.le_of_ble_eq_true rfl⟩ dL_law_347 rfl rfl (fun H locs G => ?_)
  generalize hv : (s_X4_trip sn f pf z (xs (i + 1))) = v at G ⊢
  have hq := pq_trip I z (xs (i + 1))
  have hq := hq sa
  have hq := hq hB
  rw [hu, hv] at hq
  obtain ⟨h1, h2, I2⟩ := hq
  refine lv_icmp_eq (tgt := 717) hx hb dL_law_350 (by decide) (fun _ => ?_) (fun cc => absurd h1 cc)
  rw [← h2] at G
  exact hk _ _ ls ⟨u.2.1, u.2.2.1, u.2.2.2.1, u.2.2.2.2.1, n0, m0, p0, w0, s0, f0, u.2.2.2.2.2.1, u.2.2.2.2.2.2.1, u.2.2.2.2.2.2.2, v.2.1, hs, v.2.2.1, g, v.2.2.2.1, I2, G⟩ hl
set_option maxHeartbeats 4000000 in
set_option maxRecDepth 100000 in
/-- the law at nextDue -/
theorem law_c7 {p : Program} {l : Launch} {ev : Env} {s : State} {m : MethodId} {below : List Frame} {meth : Method} {c : Code} {b L : Nat} {xs : Nat → Int32} {D : va_G} {cI cS : ClassId} (C0 : lw_At p s m meth c b L xs) (hL : L ≤ 2048) {x sv tl er : Nat} {a : Nat → Nat} {y nw ad pa eA : Nat} (i B : Nat) (hi : i + 4 ≤ L) (hB : B ≤ 60000) (hk : ∀ (H : Heap) (locs : List Loc) (ls : Array Slot), LawSt D cI cS s x sv tl er a y nw ad pa eA (B + 100) H locs → lv_has ls 4 [(3, .int (nI i)), (2, .ref y), (1, .ref x), (0, .ref b)] → W p l ev room_1 s m #[Value.ref b] below meth c H locs 600000 7302250 (lw_Z below #[Value.ref b] s) (F0 m 717 ls [])) : ∀ (H : Heap) (locs : List Loc) (ls : Array Slot), LawSt D cI cS s x sv tl er a y nw ad pa eA B H locs → lv_has ls 4 [(3, .int (nI i)), (2, .ref y), (1, .ref x), (0, .ref b)] → W p l ev room_1 s m #[Value.ref b] below meth c H locs 600000 7302250 (lw_Z below #[Value.ref b] s) (F0 m 355 ls []) := by
  obtain ⟨hx, hb, hr, hml, hown, hts, hX, hbl, hlocks, hgv⟩ := C0
  have hts := fun w h => hts w (wsL_law_in w h)
  have hbA : ¬ (fun q : Nat => s.heap.size ≤ q) b := Nat.not_le.mpr hbl
  have S : CallFix p m c code 4 s #[Value.ref b] wsL_law RL := ⟨hx, hb, hml, hown, hts⟩
  intro H locs ls hs0 hl
  obtain ⟨sc, z, r, e, n0, m0, p0, w0, s0, f0, sa, sr, se, sn, hs, f, g, pf, I, G⟩ := hs0
  refine lv_aload_n hx hb dL_law_355 rfl (lv_at hl 2 rfl) ?_
  refine lv_aload_n hx hb dL_law_356 rfl (lv_at hl 3 rfl) ?_
  refine lv_iload_n hx hb dL_law_357 rfl (lv_at hl 0 rfl) ?_
  refine lv_iconst (v := 1) hx hb dL_law_358 (by decide) ?_
  refine lv_iadd hx hb dL_law_359 ?_
  refine lv_lit (v := nI (i + 1)) (nI_add i 1) ?_
  refine va_sld hx hb hX hbl hbA G.2.2.2.1 (vp_in_nI (show i + 1 < L by omega) (by omega)) dL_law_360 ?_
  refine lv_lit (v := xs (i + 1)) (congrArg xs (nI_clamp (show i + 1 < 2 ^ 31 by omega))) ?_
  refine k_callF (n := 1) (As := [.int (xs (i + 1))]) (rest := []) (st1 := .int ((s_X3_nextDue z r (xs (i + 1))).1) :: []) (ws1 := W3 cI cS x sv tl er a sc ((s_X3_nextDue z r (xs (i + 1))).2) r e n0 m0 p0 w0 s0 f0 sa sr se (W4 cI y nw ad pa eA sn hs f g pf z ([]))) ([]) ((tl, .inr (2, [.int n0, .int m0, .int p0, .int w0, .int s0, .int f0])) :: (sv, .inl (cS, 5, .inr (.inr (.inr (.inr (fun i => some (sa i 0))))))) :: svW cI sa sr se (W4 cI y nw ad pa eA sn hs f g pf z ([]))) S G (c_X3_nextDue l D cI cS x sv tl er sc z a r e (xs (i + 1)) ) gL_law_X3_nextDue rfl (by decide +kernel) ⟨⟨rfl, rfl⟩, Nat.le_of_ble_eq_true rfl, Nat.le_of_ble_eq_true rfl⟩ rfl 0 rfl rfl rfl hl.1 rfl (Nat.le_of_ble_eq_true rfl) ⟨Nat.le_of_ble_eq_true rfl, Nat.le_of_ble_eq_true rfl⟩ dL_law_361 rfl rfl (fun H locs G => ?_)
  generalize hu : (s_X3_nextDue z r (xs (i + 1))) = u at G ⊢
  refine lv_aload_n hx hb dL_law_364 rfl (lv_at hl 1 rfl) ?_
  refine lv_aload_n hx hb dL_law_365 rfl (lv_at hl 3 rfl) ?_
  refine lv_iload_n hx hb dL_law_366 rfl (lv_at hl 0 rfl) ?_
  refine lv_iconst (v := 1) hx hb dL_law_367 (by decide) ?_
  refine lv_iadd hx hb dL_law_368 ?_
  refine lv_lit (v := nI (i + 1)) (nI_add i 1) ?_
  refine va_sld hx hb hX hbl hbA G.2.2.2.1 (vp_in_nI (show i + 1 < L by omega) (by omega)) dL_law_369 ?_
  refine lv_lit (v := xs (i + 1)) (congrArg xs (nI_clamp (show i + 1 < 2 ^ 31 by omega))) ?_
  refine k_callF (n := 1) (As := [.int (xs (i + 1))]) (rest := [.int u.1]) (st1 := .int ((s_X4_nextDue f z (xs (i + 1))).1) :: [.int u.1]) (ws1 := W3 cI cS x sv tl er a sc u.2 r e n0 m0 p0 w0 s0 f0 sa sr se (W4 cI y nw ad pa eA sn hs f g pf ((s_X4_nextDue f z (xs (i + 1))).2) ([]))) (W3 cI cS x sv tl er a sc u.2 r e n0 m0 p0 w0 s0 f0 sa sr se ([])) ([]) S G (c_X4_nextDue l D cI cS y nw ad pa eA sn hs f g pf z (xs (i + 1)) ) gL_law_X4_nextDue rfl (by decide +kernel) ⟨⟨rfl, rfl⟩, Nat.le_of_ble_eq_true rfl, Nat.le_of_ble_eq_true rfl⟩ rfl 0 rfl rfl rfl hl.1 rfl (Nat.le_of_ble_eq_true rfl) ⟨Nat.le_of_ble_eq_true rfl, Nat.le_of_ble_eq_true rfl⟩ dL_law_370 rfl rfl (fun H locs G => ?_)
  generalize hv : (s_X4_nextDue f z (xs (i + 1))) = v at G ⊢
  have hq := pq_nextDue I z (xs (i + 1))
  rw [hu, hv] at hq
  subst hq
  refine lv_icmp_eq (tgt := 717) hx hb dL_law_373 (by decide) (fun _ => ?_) (fun cc => absurd rfl cc)
  exact hk _ _ ls ⟨sc, u.2, r, e, n0, m0, p0, w0, s0, f0, sa, sr, se, sn, hs, f, g, pf, (Inv.mono I (Nat.le_add_right _ _)), G⟩ hl
set_option maxHeartbeats 4000000 in
set_option maxRecDepth 100000 in
/-- the law at lag -/
theorem law_c8 {p : Program} {l : Launch} {ev : Env} {s : State} {m : MethodId} {below : List Frame} {meth : Method} {c : Code} {b L : Nat} {xs : Nat → Int32} {D : va_G} {cI cS : ClassId} (C0 : lw_At p s m meth c b L xs) (hL : L ≤ 2048) {x sv tl er : Nat} {a : Nat → Nat} {y nw ad pa eA : Nat} (i B : Nat) (hi : i + 4 ≤ L) (hB : B ≤ 60000) (hk : ∀ (H : Heap) (locs : List Loc) (ls : Array Slot), LawSt D cI cS s x sv tl er a y nw ad pa eA (B + 100) H locs → lv_has ls 4 [(3, .int (nI i)), (2, .ref y), (1, .ref x), (0, .ref b)] → W p l ev room_1 s m #[Value.ref b] below meth c H locs 600000 7302250 (lw_Z below #[Value.ref b] s) (F0 m 717 ls [])) : ∀ (H : Heap) (locs : List Loc) (ls : Array Slot), LawSt D cI cS s x sv tl er a y nw ad pa eA B H locs → lv_has ls 4 [(3, .int (nI i)), (2, .ref y), (1, .ref x), (0, .ref b)] → W p l ev room_1 s m #[Value.ref b] below meth c H locs 600000 7302250 (lw_Z below #[Value.ref b] s) (F0 m 378 ls []) := by
  obtain ⟨hx, hb, hr, hml, hown, hts, hX, hbl, hlocks, hgv⟩ := C0
  have hts := fun w h => hts w (wsL_law_in w h)
  have hbA : ¬ (fun q : Nat => s.heap.size ≤ q) b := Nat.not_le.mpr hbl
  have S : CallFix p m c code 4 s #[Value.ref b] wsL_law RL := ⟨hx, hb, hml, hown, hts⟩
  intro H locs ls hs0 hl
  obtain ⟨sc, z, r, e, n0, m0, p0, w0, s0, f0, sa, sr, se, sn, hs, f, g, pf, I, G⟩ := hs0
  refine lv_aload_n hx hb dL_law_378 rfl (lv_at hl 2 rfl) ?_
  refine lv_aload_n hx hb dL_law_379 rfl (lv_at hl 3 rfl) ?_
  refine lv_iload_n hx hb dL_law_380 rfl (lv_at hl 0 rfl) ?_
  refine lv_iconst (v := 1) hx hb dL_law_381 (by decide) ?_
  refine lv_iadd hx hb dL_law_382 ?_
  refine lv_lit (v := nI (i + 1)) (nI_add i 1) ?_
  refine va_sld hx hb hX hbl hbA G.2.2.2.1 (vp_in_nI (show i + 1 < L by omega) (by omega)) dL_law_383 ?_
  refine lv_lit (v := xs (i + 1)) (congrArg xs (nI_clamp (show i + 1 < 2 ^ 31 by omega))) ?_
  refine k_callF (n := 1) (As := [.int (xs (i + 1))]) (rest := []) (st1 := .int ((s_X3_lag z r (xs (i + 1))).1) :: []) (ws1 := W3 cI cS x sv tl er a sc ((s_X3_lag z r (xs (i + 1))).2) r e n0 m0 p0 w0 s0 f0 sa sr se (W4 cI y nw ad pa eA sn hs f g pf z ([]))) ([]) ((tl, .inr (2, [.int n0, .int m0, .int p0, .int w0, .int s0, .int f0])) :: (sv, .inl (cS, 5, .inr (.inr (.inr (.inr (fun i => some (sa i 0))))))) :: svW cI sa sr se (W4 cI y nw ad pa eA sn hs f g pf z ([]))) S G (c_X3_lag l D cI cS x sv tl er sc z a r e (xs (i + 1)) ) gL_law_X3_lag rfl (by decide +kernel) ⟨⟨rfl, rfl⟩, Nat.le_of_ble_eq_true rfl, Nat.le_of_ble_eq_true rfl⟩ rfl 0 rfl rfl rfl hl.1 rfl (Nat.le_of_ble_eq_true rfl) ⟨Nat.le_of_ble_eq_true rfl, Nat.le_of_ble_eq_true rfl⟩ dL_law_384 rfl rfl (fun H locs G => ?_)
  generalize hu : (s_X3_lag z r (xs (i + 1))) = u at G ⊢
  refine lv_aload_n hx hb dL_law_387 rfl (lv_at hl 1 rfl) ?_
  refine lv_aload_n hx hb dL_law_388 rfl (lv_at hl 3 rfl) ?_
  refine lv_iload_n hx hb dL_law_389 rfl (lv_at hl 0 rfl) ?_
  refine lv_iconst (v := 1) hx hb dL_law_390 (by decide) ?_
  refine lv_iadd hx hb dL_law_391 ?_
  refine lv_lit (v := nI (i + 1)) (nI_add i 1) ?_
  refine va_sld hx hb hX hbl hbA G.2.2.2.1 (vp_in_nI (show i + 1 < L by omega) (by omega)) dL_law_392 ?_
  refine lv_lit (v := xs (i + 1)) (congrArg xs (nI_clamp (show i + 1 < 2 ^ 31 by omega))) ?_
  refine k_callF (n := 1) (As := [.int (xs (i + 1))]) (rest := [.int u.1]) (st1 := .int ((s_X4_lag f z (xs (i + 1))).1) :: [.int u.1]) (ws1 := W3 cI cS x sv tl er a sc u.2 r e n0 m0 p0 w0 s0 f0 sa sr se (W4 cI y nw ad pa eA sn hs f g pf ((s_X4_lag f z (xs (i + 1))).2) ([]))) (W3 cI cS x sv tl er a sc u.2 r e n0 m0 p0 w0 s0 f0 sa sr se ([])) ([]) S G (c_X4_lag l D cI cS y nw ad pa eA sn hs f g pf z (xs (i + 1)) ) gL_law_X4_lag rfl (by decide +kernel) ⟨⟨rfl, rfl⟩, Nat.le_of_ble_eq_true rfl, Nat.le_of_ble_eq_true rfl⟩ rfl 0 rfl rfl rfl hl.1 rfl (Nat.le_of_ble_eq_true rfl) ⟨Nat.le_of_ble_eq_true rfl, Nat.le_of_ble_eq_true rfl⟩ dL_law_393 rfl rfl (fun H locs G => ?_)
  generalize hv : (s_X4_lag f z (xs (i + 1))) = v at G ⊢
  have hq := pq_lag I z (xs (i + 1))
  rw [hu, hv] at hq
  subst hq
  refine lv_icmp_eq (tgt := 717) hx hb dL_law_396 (by decide) (fun _ => ?_) (fun cc => absurd rfl cc)
  exact hk _ _ ls ⟨sc, u.2, r, e, n0, m0, p0, w0, s0, f0, sa, sr, se, sn, hs, f, g, pf, (Inv.mono I (Nat.le_add_right _ _)), G⟩ hl
set_option maxHeartbeats 4000000 in
set_option maxRecDepth 100000 in
/-- the law at blowsToCorrect -/
theorem law_c9 {p : Program} {l : Launch} {ev : Env} {s : State} {m : MethodId} {below : List Frame} {meth : Method} {c : Code} {b L : Nat} {xs : Nat → Int32} {D : va_G} {cI cS : ClassId} (C0 : lw_At p s m meth c b L xs) (hL : L ≤ 2048) {x sv tl er : Nat} {a : Nat → Nat} {y nw ad pa eA : Nat} (i B : Nat) (hi : i + 4 ≤ L) (hB : B ≤ 60000) (hk : ∀ (H : Heap) (locs : List Loc) (ls : Array Slot), LawSt D cI cS s x sv tl er a y nw ad pa eA (B + 100) H locs → lv_has ls 4 [(3, .int (nI i)), (2, .ref y), (1, .ref x), (0, .ref b)] → W p l ev room_1 s m #[Value.ref b] below meth c H locs 600000 7302250 (lw_Z below #[Value.ref b] s) (F0 m 717 ls [])) : ∀ (H : Heap) (locs : List Loc) (ls : Array Slot), LawSt D cI cS s x sv tl er a y nw ad pa eA B H locs → lv_has ls 4 [(3, .int (nI i)), (2, .ref y), (1, .ref x), (0, .ref b)] → W p l ev room_1 s m #[Value.ref b] below meth c H locs 600000 7302250 (lw_Z below #[Value.ref b] s) (F0 m 401 ls []) := by
  obtain ⟨hx, hb, hr, hml, hown, hts, hX, hbl, hlocks, hgv⟩ := C0
  have hts := fun w h => hts w (wsL_law_in w h)
  have hbA : ¬ (fun q : Nat => s.heap.size ≤ q) b := Nat.not_le.mpr hbl
  have S : CallFix p m c code 4 s #[Value.ref b] wsL_law RL := ⟨hx, hb, hml, hown, hts⟩
  intro H locs ls hs0 hl
  obtain ⟨sc, z, r, e, n0, m0, p0, w0, s0, f0, sa, sr, se, sn, hs, f, g, pf, I, G⟩ := hs0
  refine lv_aload_n hx hb dL_law_401 rfl (lv_at hl 2 rfl) ?_
  refine lv_aload_n hx hb dL_law_402 rfl (lv_at hl 3 rfl) ?_
  refine lv_iload_n hx hb dL_law_403 rfl (lv_at hl 0 rfl) ?_
  refine lv_iconst (v := 1) hx hb dL_law_404 (by decide) ?_
  refine lv_iadd hx hb dL_law_405 ?_
  refine lv_lit (v := nI (i + 1)) (nI_add i 1) ?_
  refine va_sld hx hb hX hbl hbA G.2.2.2.1 (vp_in_nI (show i + 1 < L by omega) (by omega)) dL_law_406 ?_
  refine lv_lit (v := xs (i + 1)) (congrArg xs (nI_clamp (show i + 1 < 2 ^ 31 by omega))) ?_
  refine k_callF (n := 1) (As := [.int (xs (i + 1))]) (rest := []) (st1 := .int ((s_X3_blowsToCorrect z r (xs (i + 1))).1) :: []) (ws1 := W3 cI cS x sv tl er a sc ((s_X3_blowsToCorrect z r (xs (i + 1))).2) r e n0 m0 p0 w0 s0 f0 sa sr se (W4 cI y nw ad pa eA sn hs f g pf z ([]))) ([]) ((tl, .inr (2, [.int n0, .int m0, .int p0, .int w0, .int s0, .int f0])) :: (sv, .inl (cS, 5, .inr (.inr (.inr (.inr (fun i => some (sa i 0))))))) :: svW cI sa sr se (W4 cI y nw ad pa eA sn hs f g pf z ([]))) S G (c_X3_blowsToCorrect l D cI cS x sv tl er sc z a r e (xs (i + 1)) ) gL_law_X3_blowsToCorrect rfl (by decide +kernel) ⟨⟨rfl, rfl⟩, Nat.le_of_ble_eq_true rfl, Nat.le_of_ble_eq_true rfl⟩ rfl 0 rfl rfl rfl hl.1 rfl (Nat.le_of_ble_eq_true rfl) ⟨Nat.le_of_ble_eq_true rfl, Nat.le_of_ble_eq_true rfl⟩ dL_law_407 rfl rfl (fun H locs G => ?_)
  generalize hu : (s_X3_blowsToCorrect z r (xs (i + 1))) = u at G ⊢
  refine lv_aload_n hx hb dL_law_410 rfl (lv_at hl 1 rfl) ?_
  refine lv_aload_n hx hb dL_law_411 rfl (lv_at hl 3 rfl) ?_
  refine lv_iload_n hx hb dL_law_412 rfl (lv_at hl 0 rfl) ?_
  refine lv_iconst (v := 1) hx hb dL_law_413 (by decide) ?_
  refine lv_iadd hx hb dL_law_414 ?_
  refine lv_lit (v := nI (i + 1)) (nI_add i 1) ?_
  refine va_sld hx hb hX hbl hbA G.2.2.2.1 (vp_in_nI (show i + 1 < L by omega) (by omega)) dL_law_415 ?_
  refine lv_lit (v := xs (i + 1)) (congrArg xs (nI_clamp (show i + 1 < 2 ^ 31 by omega))) ?_
  refine k_callF (n := 1) (As := [.int (xs (i + 1))]) (rest := [.int u.1]) (st1 := .int ((s_X4_blowsToCorrect f z (xs (i + 1))).1) :: [.int u.1]) (ws1 := W3 cI cS x sv tl er a sc u.2 r e n0 m0 p0 w0 s0 f0 sa sr se (W4 cI y nw ad pa eA sn hs f g pf ((s_X4_blowsToCorrect f z (xs (i + 1))).2) ([]))) (W3 cI cS x sv tl er a sc u.2 r e n0 m0 p0 w0 s0 f0 sa sr se ([])) ([]) S G (c_X4_blowsToCorrect l D cI cS y nw ad pa eA sn hs f g pf z (xs (i + 1)) ) gL_law_X4_blowsToCorrect rfl (by decide +kernel) ⟨⟨rfl, rfl⟩, Nat.le_of_ble_eq_true rfl, Nat.le_of_ble_eq_true rfl⟩ rfl 0 rfl rfl rfl hl.1 rfl (Nat.le_of_ble_eq_true rfl) ⟨Nat.le_of_ble_eq_true rfl, Nat.le_of_ble_eq_true rfl⟩ dL_law_416 rfl rfl (fun H locs G => ?_)
  generalize hv : (s_X4_blowsToCorrect f z (xs (i + 1))) = v at G ⊢
  have hq := pq_blowsToCorrect I z (xs (i + 1))
  rw [hu, hv] at hq
  subst hq
  refine lv_icmp_eq (tgt := 717) hx hb dL_law_419 (by decide) (fun _ => ?_) (fun cc => absurd rfl cc)
  exact hk _ _ ls ⟨sc, u.2, r, e, n0, m0, p0, w0, s0, f0, sa, sr, se, sn, hs, f, g, pf, (Inv.mono I (Nat.le_add_right _ _)), G⟩ hl
set_option maxHeartbeats 4000000 in
set_option maxRecDepth 100000 in
/-- the law at handsToCorrect -/
theorem law_c10 {p : Program} {l : Launch} {ev : Env} {s : State} {m : MethodId} {below : List Frame} {meth : Method} {c : Code} {b L : Nat} {xs : Nat → Int32} {D : va_G} {cI cS : ClassId} (C0 : lw_At p s m meth c b L xs) (hL : L ≤ 2048) {x sv tl er : Nat} {a : Nat → Nat} {y nw ad pa eA : Nat} (i B : Nat) (hi : i + 4 ≤ L) (hB : B ≤ 60000) (hk : ∀ (H : Heap) (locs : List Loc) (ls : Array Slot), LawSt D cI cS s x sv tl er a y nw ad pa eA (B + 100) H locs → lv_has ls 4 [(3, .int (nI i)), (2, .ref y), (1, .ref x), (0, .ref b)] → W p l ev room_1 s m #[Value.ref b] below meth c H locs 600000 7302250 (lw_Z below #[Value.ref b] s) (F0 m 717 ls [])) : ∀ (H : Heap) (locs : List Loc) (ls : Array Slot), LawSt D cI cS s x sv tl er a y nw ad pa eA B H locs → lv_has ls 4 [(3, .int (nI i)), (2, .ref y), (1, .ref x), (0, .ref b)] → W p l ev room_1 s m #[Value.ref b] below meth c H locs 600000 7302250 (lw_Z below #[Value.ref b] s) (F0 m 424 ls []) := by
  obtain ⟨hx, hb, hr, hml, hown, hts, hX, hbl, hlocks, hgv⟩ := C0
  have hts := fun w h => hts w (wsL_law_in w h)
  have hbA : ¬ (fun q : Nat => s.heap.size ≤ q) b := Nat.not_le.mpr hbl
  have S : CallFix p m c code 4 s #[Value.ref b] wsL_law RL := ⟨hx, hb, hml, hown, hts⟩
  intro H locs ls hs0 hl
  obtain ⟨sc, z, r, e, n0, m0, p0, w0, s0, f0, sa, sr, se, sn, hs, f, g, pf, I, G⟩ := hs0
  refine lv_aload_n hx hb dL_law_424 rfl (lv_at hl 2 rfl) ?_
  refine lv_aload_n hx hb dL_law_425 rfl (lv_at hl 3 rfl) ?_
  refine lv_iload_n hx hb dL_law_426 rfl (lv_at hl 0 rfl) ?_
  refine lv_iconst (v := 1) hx hb dL_law_427 (by decide) ?_
  refine lv_iadd hx hb dL_law_428 ?_
  refine lv_lit (v := nI (i + 1)) (nI_add i 1) ?_
  refine va_sld hx hb hX hbl hbA G.2.2.2.1 (vp_in_nI (show i + 1 < L by omega) (by omega)) dL_law_429 ?_
  refine lv_lit (v := xs (i + 1)) (congrArg xs (nI_clamp (show i + 1 < 2 ^ 31 by omega))) ?_
  refine k_callF (n := 1) (As := [.int (xs (i + 1))]) (rest := []) (st1 := .int ((s_X3_handsToCorrect z r (xs (i + 1))).1) :: []) (ws1 := W3 cI cS x sv tl er a sc ((s_X3_handsToCorrect z r (xs (i + 1))).2) r e n0 m0 p0 w0 s0 f0 sa sr se (W4 cI y nw ad pa eA sn hs f g pf z ([]))) ([]) ((tl, .inr (2, [.int n0, .int m0, .int p0, .int w0, .int s0, .int f0])) :: (sv, .inl (cS, 5, .inr (.inr (.inr (.inr (fun i => some (sa i 0))))))) :: svW cI sa sr se (W4 cI y nw ad pa eA sn hs f g pf z ([]))) S G (c_X3_handsToCorrect l D cI cS x sv tl er sc z a r e (xs (i + 1)) ) gL_law_X3_handsToCorrect rfl (by decide +kernel) ⟨⟨rfl, rfl⟩, Nat.le_of_ble_eq_true rfl, Nat.le_of_ble_eq_true rfl⟩ rfl 0 rfl rfl rfl hl.1 rfl (Nat.le_of_ble_eq_true rfl) ⟨Nat.le_of_ble_eq_true rfl, Nat.le_of_ble_eq_true rfl⟩ dL_law_430 rfl rfl (fun H locs G => ?_)
  generalize hu : (s_X3_handsToCorrect z r (xs (i + 1))) = u at G ⊢
  refine lv_aload_n hx hb dL_law_433 rfl (lv_at hl 1 rfl) ?_
  refine lv_aload_n hx hb dL_law_434 rfl (lv_at hl 3 rfl) ?_
  refine lv_iload_n hx hb dL_law_435 rfl (lv_at hl 0 rfl) ?_
  refine lv_iconst (v := 1) hx hb dL_law_436 (by decide) ?_
  refine lv_iadd hx hb dL_law_437 ?_
  refine lv_lit (v := nI (i + 1)) (nI_add i 1) ?_
  refine va_sld hx hb hX hbl hbA G.2.2.2.1 (vp_in_nI (show i + 1 < L by omega) (by omega)) dL_law_438 ?_
  refine lv_lit (v := xs (i + 1)) (congrArg xs (nI_clamp (show i + 1 < 2 ^ 31 by omega))) ?_
  refine k_callF (n := 1) (As := [.int (xs (i + 1))]) (rest := [.int u.1]) (st1 := .int ((s_X4_handsToCorrect f z (xs (i + 1))).1) :: [.int u.1]) (ws1 := W3 cI cS x sv tl er a sc u.2 r e n0 m0 p0 w0 s0 f0 sa sr se (W4 cI y nw ad pa eA sn hs f g pf ((s_X4_handsToCorrect f z (xs (i + 1))).2) ([]))) (W3 cI cS x sv tl er a sc u.2 r e n0 m0 p0 w0 s0 f0 sa sr se ([])) ([]) S G (c_X4_handsToCorrect l D cI cS y nw ad pa eA sn hs f g pf z (xs (i + 1)) (Inv.h0 I) (Inv.h1 I)) gL_law_X4_handsToCorrect rfl (by decide +kernel) ⟨⟨rfl, rfl⟩, Nat.le_of_ble_eq_true rfl, Nat.le_of_ble_eq_true rfl⟩ rfl 0 rfl rfl rfl hl.1 rfl (Nat.le_of_ble_eq_true rfl) ⟨Nat.le_of_ble_eq_true rfl, Nat.le_of_ble_eq_true rfl⟩ dL_law_439 rfl rfl (fun H locs G => ?_)
  generalize hv : (s_X4_handsToCorrect f z (xs (i + 1))) = v at G ⊢
  have hq := pq_handsToCorrect I z (xs (i + 1))
  rw [hu, hv] at hq
  subst hq
  refine lv_icmp_eq (tgt := 717) hx hb dL_law_442 (by decide) (fun _ => ?_) (fun cc => absurd rfl cc)
  exact hk _ _ ls ⟨sc, u.2, r, e, n0, m0, p0, w0, s0, f0, sa, sr, se, sn, hs, f, g, pf, (Inv.mono I (Nat.le_add_right _ _)), G⟩ hl
set_option maxHeartbeats 4000000 in
set_option maxRecDepth 100000 in
/-- the law at minutesToMiss -/
theorem law_c11 {p : Program} {l : Launch} {ev : Env} {s : State} {m : MethodId} {below : List Frame} {meth : Method} {c : Code} {b L : Nat} {xs : Nat → Int32} {D : va_G} {cI cS : ClassId} (C0 : lw_At p s m meth c b L xs) (hL : L ≤ 2048) {x sv tl er : Nat} {a : Nat → Nat} {y nw ad pa eA : Nat} (i B : Nat) (hi : i + 4 ≤ L) (hB : B ≤ 60000) (hk : ∀ (H : Heap) (locs : List Loc) (ls : Array Slot), LawSt D cI cS s x sv tl er a y nw ad pa eA (B + 100) H locs → lv_has ls 4 [(3, .int (nI i)), (2, .ref y), (1, .ref x), (0, .ref b)] → W p l ev room_1 s m #[Value.ref b] below meth c H locs 600000 7302250 (lw_Z below #[Value.ref b] s) (F0 m 717 ls [])) : ∀ (H : Heap) (locs : List Loc) (ls : Array Slot), LawSt D cI cS s x sv tl er a y nw ad pa eA B H locs → lv_has ls 4 [(3, .int (nI i)), (2, .ref y), (1, .ref x), (0, .ref b)] → W p l ev room_1 s m #[Value.ref b] below meth c H locs 600000 7302250 (lw_Z below #[Value.ref b] s) (F0 m 447 ls []) := by
  obtain ⟨hx, hb, hr, hml, hown, hts, hX, hbl, hlocks, hgv⟩ := C0
  have hts := fun w h => hts w (wsL_law_in w h)
  have hbA : ¬ (fun q : Nat => s.heap.size ≤ q) b := Nat.not_le.mpr hbl
  have S : CallFix p m c code 4 s #[Value.ref b] wsL_law RL := ⟨hx, hb, hml, hown, hts⟩
  intro H locs ls hs0 hl
  obtain ⟨sc, z, r, e, n0, m0, p0, w0, s0, f0, sa, sr, se, sn, hs, f, g, pf, I, G⟩ := hs0
  refine lv_aload_n hx hb dL_law_447 rfl (lv_at hl 2 rfl) ?_
  refine lv_aload_n hx hb dL_law_448 rfl (lv_at hl 3 rfl) ?_
  refine lv_iload_n hx hb dL_law_449 rfl (lv_at hl 0 rfl) ?_
  refine lv_iconst (v := 1) hx hb dL_law_450 (by decide) ?_
  refine lv_iadd hx hb dL_law_451 ?_
  refine lv_lit (v := nI (i + 1)) (nI_add i 1) ?_
  refine va_sld hx hb hX hbl hbA G.2.2.2.1 (vp_in_nI (show i + 1 < L by omega) (by omega)) dL_law_452 ?_
  refine lv_lit (v := xs (i + 1)) (congrArg xs (nI_clamp (show i + 1 < 2 ^ 31 by omega))) ?_
  refine k_callF (n := 1) (As := [.int (xs (i + 1))]) (rest := []) (st1 := .int ((s_X3_minutesToMiss z r n0 m0 p0 w0 s0 f0 (xs (i + 1))).1) :: []) (ws1 := W3 cI cS x sv tl er a sc ((s_X3_minutesToMiss z r n0 m0 p0 w0 s0 f0 (xs (i + 1))).2.1) r e ((s_X3_minutesToMiss z r n0 m0 p0 w0 s0 f0 (xs (i + 1))).2.2.1) ((s_X3_minutesToMiss z r n0 m0 p0 w0 s0 f0 (xs (i + 1))).2.2.2.1) ((s_X3_minutesToMiss z r n0 m0 p0 w0 s0 f0 (xs (i + 1))).2.2.2.2.1) ((s_X3_minutesToMiss z r n0 m0 p0 w0 s0 f0 (xs (i + 1))).2.2.2.2.2.1) ((s_X3_minutesToMiss z r n0 m0 p0 w0 s0 f0 (xs (i + 1))).2.2.2.2.2.2.1) ((s_X3_minutesToMiss z r n0 m0 p0 w0 s0 f0 (xs (i + 1))).2.2.2.2.2.2.2) sa sr se (W4 cI y nw ad pa eA sn hs f g pf z ([]))) ([]) ((sv, .inl (cS, 5, .inr (.inr (.inr (.inr (fun i => some (sa i 0))))))) :: svW cI sa sr se (W4 cI y nw ad pa eA sn hs f g pf z ([]))) S G (c_X3_minutesToMiss l D cI cS x sv tl er sc z a r e n0 m0 p0 w0 s0 f0 (xs (i + 1)) (Inv.r0 I)) gL_law_X3_minutesToMiss rfl (by decide +kernel) ⟨⟨rfl, rfl⟩, Nat.le_of_ble_eq_true rfl, Nat.le_of_ble_eq_true rfl⟩ rfl 0 rfl rfl rfl hl.1 rfl (Nat.le_of_ble_eq_true rfl) ⟨Nat.le_of_ble_eq_true rfl, Nat.le_of_ble_eq_true rfl⟩ dL_law_453 rfl rfl (fun H locs G => ?_)
  generalize hu : (s_X3_minutesToMiss z r n0 m0 p0 w0 s0 f0 (xs (i + 1))) = u at G ⊢
  refine lv_aload_n hx hb dL_law_456 rfl (lv_at hl 1 rfl) ?_
  refine lv_aload_n hx hb dL_law_457 rfl (lv_at hl 3 rfl) ?_
  refine lv_iload_n hx hb dL_law_458 rfl (lv_at hl 0 rfl) ?_
  refine lv_iconst (v := 1) hx hb dL_law_459 (by decide) ?_
  refine lv_iadd hx hb dL_law_460 ?_
  refine lv_lit (v := nI (i + 1)) (nI_add i 1) ?_
  refine va_sld hx hb hX hbl hbA G.2.2.2.1 (vp_in_nI (show i + 1 < L by omega) (by omega)) dL_law_461 ?_
  refine lv_lit (v := xs (i + 1)) (congrArg xs (nI_clamp (show i + 1 < 2 ^ 31 by omega))) ?_
  refine k_callF (n := 1) (As := [.int (xs (i + 1))]) (rest := [.int u.1]) (st1 := .int ((s_X4_minutesToMiss f g z (xs (i + 1))).1) :: [.int u.1]) (ws1 := W3 cI cS x sv tl er a sc u.2.1 r e u.2.2.1 u.2.2.2.1 u.2.2.2.2.1 u.2.2.2.2.2.1 u.2.2.2.2.2.2.1 u.2.2.2.2.2.2.2 sa sr se (W4 cI y nw ad pa eA sn hs f ((s_X4_minutesToMiss f g z (xs (i + 1))).2.1) pf ((s_X4_minutesToMiss f g z (xs (i + 1))).2.2) ([]))) (W3 cI cS x sv tl er a sc u.2.1 r e u.2.2.1 u.2.2.2.1 u.2.2.2.2.1 u.2.2.2.2.2.1 u.2.2.2.2.2.2.1 u.2.2.2.2.2.2.2 sa sr se ([])) ([]) S G (c_X4_minutesToMiss l D cI cS y nw ad pa eA sn hs f g pf z (xs (i + 1)) ) gL_law_X4_minutesToMiss rfl (by decide +kernel) ⟨⟨rfl, rfl⟩, Nat.le_of_ble_eq_true rfl, Nat.le_of_ble_eq_true rfl⟩ rfl 0 rfl rfl rfl hl.1 rfl (Nat.le_of_ble_eq_true rfl) ⟨Nat.le_of_ble_eq_true rfl, Nat.le_of_ble_eq_true rfl⟩ dL_law_462 rfl rfl (fun H locs G => ?_)
  generalize hv : (s_X4_minutesToMiss f g z (xs (i + 1))) = v at G ⊢
  have hq := pq_minutesToMiss I z (xs (i + 1))
  have hq := hq g n0 m0 p0 w0 s0 f0 hB
  rw [hu, hv] at hq
  obtain ⟨h1, h2⟩ := hq
  refine lv_icmp_eq (tgt := 717) hx hb dL_law_465 (by decide) (fun _ => ?_) (fun cc => absurd h1 cc)
  rw [← h2] at G
  exact hk _ _ ls ⟨sc, u.2.1, r, e, u.2.2.1, u.2.2.2.1, u.2.2.2.2.1, u.2.2.2.2.2.1, u.2.2.2.2.2.2.1, u.2.2.2.2.2.2.2, sa, sr, se, sn, hs, f, v.2.1, pf, (Inv.mono I (Nat.le_add_right _ _)), G⟩ hl
set_option maxHeartbeats 4000000 in
set_option maxRecDepth 100000 in
/-- the law at minute -/
theorem law_c12 {p : Program} {l : Launch} {ev : Env} {s : State} {m : MethodId} {below : List Frame} {meth : Method} {c : Code} {b L : Nat} {xs : Nat → Int32} {D : va_G} {cI cS : ClassId} (C0 : lw_At p s m meth c b L xs) (hL : L ≤ 2048) {x sv tl er : Nat} {a : Nat → Nat} {y nw ad pa eA : Nat} (i B : Nat) (hi : i + 4 ≤ L) (hB : B ≤ 60000) (hk : ∀ (H : Heap) (locs : List Loc) (ls : Array Slot), LawSt D cI cS s x sv tl er a y nw ad pa eA (B + 100) H locs → lv_has ls 4 [(3, .int (nI i)), (2, .ref y), (1, .ref x), (0, .ref b)] → W p l ev room_1 s m #[Value.ref b] below meth c H locs 600000 7302250 (lw_Z below #[Value.ref b] s) (F0 m 717 ls [])) : ∀ (H : Heap) (locs : List Loc) (ls : Array Slot), LawSt D cI cS s x sv tl er a y nw ad pa eA B H locs → lv_has ls 4 [(3, .int (nI i)), (2, .ref y), (1, .ref x), (0, .ref b)] → W p l ev room_1 s m #[Value.ref b] below meth c H locs 600000 7302250 (lw_Z below #[Value.ref b] s) (F0 m 470 ls []) := by
  obtain ⟨hx, hb, hr, hml, hown, hts, hX, hbl, hlocks, hgv⟩ := C0
  have hts := fun w h => hts w (wsL_law_in w h)
  have hbA : ¬ (fun q : Nat => s.heap.size ≤ q) b := Nat.not_le.mpr hbl
  have S : CallFix p m c code 4 s #[Value.ref b] wsL_law RL := ⟨hx, hb, hml, hown, hts⟩
  intro H locs ls hs0 hl
  obtain ⟨sc, z, r, e, n0, m0, p0, w0, s0, f0, sa, sr, se, sn, hs, f, g, pf, I, G⟩ := hs0
  refine lv_aload_n hx hb dL_law_470 rfl (lv_at hl 2 rfl) ?_
  refine k_callF (n := 0) (As := []) (rest := []) (st1 := .int (s_X3_minute r) :: []) (ws1 := W3 cI cS x sv tl er a sc z r e n0 m0 p0 w0 s0 f0 sa sr se (W4 cI y nw ad pa eA sn hs f g pf z ([]))) ([]) ((tl, .inr (2, [.int n0, .int m0, .int p0, .int w0, .int s0, .int f0])) :: (sv, .inl (cS, 5, .inr (.inr (.inr (.inr (fun i => some (sa i 0))))))) :: svW cI sa sr se (W4 cI y nw ad pa eA sn hs f g pf z ([]))) S G (c_X3_minute l D cI cS x sv tl er sc z a r e ) gL_law_X3_minute rfl (by decide +kernel) ⟨⟨rfl, rfl⟩, Nat.le_of_ble_eq_true rfl, Nat.le_of_ble_eq_true rfl⟩ rfl 0 rfl rfl rfl hl.1 rfl (Nat.le_of_ble_eq_true rfl) ⟨Nat.le_of_ble_eq_true rfl, Nat.le_of_ble_eq_true rfl⟩ dL_law_471 rfl rfl (fun H locs G => ?_)
  generalize hu : (s_X3_minute r) = u at G ⊢
  refine lv_aload_n hx hb dL_law_474 rfl (lv_at hl 1 rfl) ?_
  refine k_callF (n := 0) (As := []) (rest := [.int u]) (st1 := .int (s_X4_minute f) :: [.int u]) (ws1 := W3 cI cS x sv tl er a sc z r e n0 m0 p0 w0 s0 f0 sa sr se (W4 cI y nw ad pa eA sn hs f g pf z ([]))) (W3 cI cS x sv tl er a sc z r e n0 m0 p0 w0 s0 f0 sa sr se ([])) ([]) S G (c_X4_minute l D cI cS y nw ad pa eA sn hs f g pf z ) gL_law_X4_minute rfl (by decide +kernel) ⟨⟨rfl, rfl⟩, Nat.le_of_ble_eq_true rfl, Nat.le_of_ble_eq_true rfl⟩ rfl 0 rfl rfl rfl hl.1 rfl (Nat.le_of_ble_eq_true rfl) ⟨Nat.le_of_ble_eq_true rfl, Nat.le_of_ble_eq_true rfl⟩ dL_law_475 rfl rfl (fun H locs G => ?_)
  generalize hv : (s_X4_minute f) = v at G ⊢
  have hq := pq_minute I z 
  rw [hu, hv] at hq
  subst hq
  refine lv_icmp_eq (tgt := 717) hx hb dL_law_478 (by decide) (fun _ => ?_) (fun cc => absurd rfl cc)
  exact hk _ _ ls ⟨sc, z, r, e, n0, m0, p0, w0, s0, f0, sa, sr, se, sn, hs, f, g, pf, (Inv.mono I (Nat.le_add_right _ _)), G⟩ hl
set_option maxHeartbeats 4000000 in
set_option maxRecDepth 100000 in
/-- the law at position -/
theorem law_c13 {p : Program} {l : Launch} {ev : Env} {s : State} {m : MethodId} {below : List Frame} {meth : Method} {c : Code} {b L : Nat} {xs : Nat → Int32} {D : va_G} {cI cS : ClassId} (C0 : lw_At p s m meth c b L xs) (hL : L ≤ 2048) {x sv tl er : Nat} {a : Nat → Nat} {y nw ad pa eA : Nat} (i B : Nat) (hi : i + 4 ≤ L) (hB : B ≤ 60000) (hk : ∀ (H : Heap) (locs : List Loc) (ls : Array Slot), LawSt D cI cS s x sv tl er a y nw ad pa eA (B + 100) H locs → lv_has ls 4 [(3, .int (nI i)), (2, .ref y), (1, .ref x), (0, .ref b)] → W p l ev room_1 s m #[Value.ref b] below meth c H locs 600000 7302250 (lw_Z below #[Value.ref b] s) (F0 m 717 ls [])) : ∀ (H : Heap) (locs : List Loc) (ls : Array Slot), LawSt D cI cS s x sv tl er a y nw ad pa eA B H locs → lv_has ls 4 [(3, .int (nI i)), (2, .ref y), (1, .ref x), (0, .ref b)] → W p l ev room_1 s m #[Value.ref b] below meth c H locs 600000 7302250 (lw_Z below #[Value.ref b] s) (F0 m 483 ls []) := by
  obtain ⟨hx, hb, hr, hml, hown, hts, hX, hbl, hlocks, hgv⟩ := C0
  have hts := fun w h => hts w (wsL_law_in w h)
  have hbA : ¬ (fun q : Nat => s.heap.size ≤ q) b := Nat.not_le.mpr hbl
  have S : CallFix p m c code 4 s #[Value.ref b] wsL_law RL := ⟨hx, hb, hml, hown, hts⟩
  intro H locs ls hs0 hl
  obtain ⟨sc, z, r, e, n0, m0, p0, w0, s0, f0, sa, sr, se, sn, hs, f, g, pf, I, G⟩ := hs0
  refine lv_aload_n hx hb dL_law_483 rfl (lv_at hl 2 rfl) ?_
  refine lv_aload_n hx hb dL_law_484 rfl (lv_at hl 3 rfl) ?_
  refine lv_iload_n hx hb dL_law_485 rfl (lv_at hl 0 rfl) ?_
  refine lv_iconst (v := 1) hx hb dL_law_486 (by decide) ?_
  refine lv_iadd hx hb dL_law_487 ?_
  refine lv_lit (v := nI (i + 1)) (nI_add i 1) ?_
  refine va_sld hx hb hX hbl hbA G.2.2.2.1 (vp_in_nI (show i + 1 < L by omega) (by omega)) dL_law_488 ?_
  refine lv_lit (v := xs (i + 1)) (congrArg xs (nI_clamp (show i + 1 < 2 ^ 31 by omega))) ?_
  refine k_callF (n := 1) (As := [.int (xs (i + 1))]) (rest := []) (st1 := .int ((s_X3_position z r (xs (i + 1))).1) :: []) (ws1 := W3 cI cS x sv tl er a sc ((s_X3_position z r (xs (i + 1))).2) r e n0 m0 p0 w0 s0 f0 sa sr se (W4 cI y nw ad pa eA sn hs f g pf z ([]))) ([]) ((tl, .inr (2, [.int n0, .int m0, .int p0, .int w0, .int s0, .int f0])) :: (sv, .inl (cS, 5, .inr (.inr (.inr (.inr (fun i => some (sa i 0))))))) :: svW cI sa sr se (W4 cI y nw ad pa eA sn hs f g pf z ([]))) S G (c_X3_position l D cI cS x sv tl er sc z a r e (xs (i + 1)) ) gL_law_X3_position rfl (by decide +kernel) ⟨⟨rfl, rfl⟩, Nat.le_of_ble_eq_true rfl, Nat.le_of_ble_eq_true rfl⟩ rfl 0 rfl rfl rfl hl.1 rfl (Nat.le_of_ble_eq_true rfl) ⟨Nat.le_of_ble_eq_true rfl, Nat.le_of_ble_eq_true rfl⟩ dL_law_489 rfl rfl (fun H locs G => ?_)
  generalize hu : (s_X3_position z r (xs (i + 1))) = u at G ⊢
  refine lv_aload_n hx hb dL_law_492 rfl (lv_at hl 1 rfl) ?_
  refine lv_aload_n hx hb dL_law_493 rfl (lv_at hl 3 rfl) ?_
  refine lv_iload_n hx hb dL_law_494 rfl (lv_at hl 0 rfl) ?_
  refine lv_iconst (v := 1) hx hb dL_law_495 (by decide) ?_
  refine lv_iadd hx hb dL_law_496 ?_
  refine lv_lit (v := nI (i + 1)) (nI_add i 1) ?_
  refine va_sld hx hb hX hbl hbA G.2.2.2.1 (vp_in_nI (show i + 1 < L by omega) (by omega)) dL_law_497 ?_
  refine lv_lit (v := xs (i + 1)) (congrArg xs (nI_clamp (show i + 1 < 2 ^ 31 by omega))) ?_
  refine k_callF (n := 1) (As := [.int (xs (i + 1))]) (rest := [.int u.1]) (st1 := .int ((s_X4_position f z (xs (i + 1))).1) :: [.int u.1]) (ws1 := W3 cI cS x sv tl er a sc u.2 r e n0 m0 p0 w0 s0 f0 sa sr se (W4 cI y nw ad pa eA sn hs f g pf ((s_X4_position f z (xs (i + 1))).2) ([]))) (W3 cI cS x sv tl er a sc u.2 r e n0 m0 p0 w0 s0 f0 sa sr se ([])) ([]) S G (c_X4_position l D cI cS y nw ad pa eA sn hs f g pf z (xs (i + 1)) ) gL_law_X4_position rfl (by decide +kernel) ⟨⟨rfl, rfl⟩, Nat.le_of_ble_eq_true rfl, Nat.le_of_ble_eq_true rfl⟩ rfl 0 rfl rfl rfl hl.1 rfl (Nat.le_of_ble_eq_true rfl) ⟨Nat.le_of_ble_eq_true rfl, Nat.le_of_ble_eq_true rfl⟩ dL_law_498 rfl rfl (fun H locs G => ?_)
  generalize hv : (s_X4_position f z (xs (i + 1))) = v at G ⊢
  have hq := pq_position I z (xs (i + 1))
  rw [hu, hv] at hq
  subst hq
  refine lv_icmp_eq (tgt := 717) hx hb dL_law_501 (by decide) (fun _ => ?_) (fun cc => absurd rfl cc)
  exact hk _ _ ls ⟨sc, u.2, r, e, n0, m0, p0, w0, s0, f0, sa, sr, se, sn, hs, f, g, pf, (Inv.mono I (Nat.le_add_right _ _)), G⟩ hl
set_option maxHeartbeats 4000000 in
set_option maxRecDepth 100000 in
/-- the law at weight -/
theorem law_c14 {p : Program} {l : Launch} {ev : Env} {s : State} {m : MethodId} {below : List Frame} {meth : Method} {c : Code} {b L : Nat} {xs : Nat → Int32} {D : va_G} {cI cS : ClassId} (C0 : lw_At p s m meth c b L xs) (hL : L ≤ 2048) {x sv tl er : Nat} {a : Nat → Nat} {y nw ad pa eA : Nat} (i B : Nat) (hi : i + 4 ≤ L) (hB : B ≤ 60000) (hk : ∀ (H : Heap) (locs : List Loc) (ls : Array Slot), LawSt D cI cS s x sv tl er a y nw ad pa eA (B + 100) H locs → lv_has ls 4 [(3, .int (nI i)), (2, .ref y), (1, .ref x), (0, .ref b)] → W p l ev room_1 s m #[Value.ref b] below meth c H locs 600000 7302250 (lw_Z below #[Value.ref b] s) (F0 m 717 ls [])) : ∀ (H : Heap) (locs : List Loc) (ls : Array Slot), LawSt D cI cS s x sv tl er a y nw ad pa eA B H locs → lv_has ls 4 [(3, .int (nI i)), (2, .ref y), (1, .ref x), (0, .ref b)] → W p l ev room_1 s m #[Value.ref b] below meth c H locs 600000 7302250 (lw_Z below #[Value.ref b] s) (F0 m 506 ls []) := by
  obtain ⟨hx, hb, hr, hml, hown, hts, hX, hbl, hlocks, hgv⟩ := C0
  have hts := fun w h => hts w (wsL_law_in w h)
  have hbA : ¬ (fun q : Nat => s.heap.size ≤ q) b := Nat.not_le.mpr hbl
  have S : CallFix p m c code 4 s #[Value.ref b] wsL_law RL := ⟨hx, hb, hml, hown, hts⟩
  intro H locs ls hs0 hl
  obtain ⟨sc, z, r, e, n0, m0, p0, w0, s0, f0, sa, sr, se, sn, hs, f, g, pf, I, G⟩ := hs0
  refine lv_aload_n hx hb dL_law_506 rfl (lv_at hl 2 rfl) ?_
  refine lv_aload_n hx hb dL_law_507 rfl (lv_at hl 3 rfl) ?_
  refine lv_iload_n hx hb dL_law_508 rfl (lv_at hl 0 rfl) ?_
  refine lv_iconst (v := 1) hx hb dL_law_509 (by decide) ?_
  refine lv_iadd hx hb dL_law_510 ?_
  refine lv_lit (v := nI (i + 1)) (nI_add i 1) ?_
  refine va_sld hx hb hX hbl hbA G.2.2.2.1 (vp_in_nI (show i + 1 < L by omega) (by omega)) dL_law_511 ?_
  refine lv_lit (v := xs (i + 1)) (congrArg xs (nI_clamp (show i + 1 < 2 ^ 31 by omega))) ?_
  refine k_callF (n := 1) (As := [.int (xs (i + 1))]) (rest := []) (st1 := .int ((s_X3_weight z r (xs (i + 1))).1) :: []) (ws1 := W3 cI cS x sv tl er a sc ((s_X3_weight z r (xs (i + 1))).2) r e n0 m0 p0 w0 s0 f0 sa sr se (W4 cI y nw ad pa eA sn hs f g pf z ([]))) ([]) ((tl, .inr (2, [.int n0, .int m0, .int p0, .int w0, .int s0, .int f0])) :: (sv, .inl (cS, 5, .inr (.inr (.inr (.inr (fun i => some (sa i 0))))))) :: svW cI sa sr se (W4 cI y nw ad pa eA sn hs f g pf z ([]))) S G (c_X3_weight l D cI cS x sv tl er sc z a r e (xs (i + 1)) ) gL_law_X3_weight rfl (by decide +kernel) ⟨⟨rfl, rfl⟩, Nat.le_of_ble_eq_true rfl, Nat.le_of_ble_eq_true rfl⟩ rfl 0 rfl rfl rfl hl.1 rfl (Nat.le_of_ble_eq_true rfl) ⟨Nat.le_of_ble_eq_true rfl, Nat.le_of_ble_eq_true rfl⟩ dL_law_512 rfl rfl (fun H locs G => ?_)
  generalize hu : (s_X3_weight z r (xs (i + 1))) = u at G ⊢
  refine lv_aload_n hx hb dL_law_515 rfl (lv_at hl 1 rfl) ?_
  refine lv_aload_n hx hb dL_law_516 rfl (lv_at hl 3 rfl) ?_
  refine lv_iload_n hx hb dL_law_517 rfl (lv_at hl 0 rfl) ?_
  refine lv_iconst (v := 1) hx hb dL_law_518 (by decide) ?_
  refine lv_iadd hx hb dL_law_519 ?_
  refine lv_lit (v := nI (i + 1)) (nI_add i 1) ?_
  refine va_sld hx hb hX hbl hbA G.2.2.2.1 (vp_in_nI (show i + 1 < L by omega) (by omega)) dL_law_520 ?_
  refine lv_lit (v := xs (i + 1)) (congrArg xs (nI_clamp (show i + 1 < 2 ^ 31 by omega))) ?_
  refine k_callF (n := 1) (As := [.int (xs (i + 1))]) (rest := [.int u.1]) (st1 := .int ((s_X4_weight f z (xs (i + 1))).1) :: [.int u.1]) (ws1 := W3 cI cS x sv tl er a sc u.2 r e n0 m0 p0 w0 s0 f0 sa sr se (W4 cI y nw ad pa eA sn hs f g pf ((s_X4_weight f z (xs (i + 1))).2) ([]))) (W3 cI cS x sv tl er a sc u.2 r e n0 m0 p0 w0 s0 f0 sa sr se ([])) ([]) S G (c_X4_weight l D cI cS y nw ad pa eA sn hs f g pf z (xs (i + 1)) ) gL_law_X4_weight rfl (by decide +kernel) ⟨⟨rfl, rfl⟩, Nat.le_of_ble_eq_true rfl, Nat.le_of_ble_eq_true rfl⟩ rfl 0 rfl rfl rfl hl.1 rfl (Nat.le_of_ble_eq_true rfl) ⟨Nat.le_of_ble_eq_true rfl, Nat.le_of_ble_eq_true rfl⟩ dL_law_521 rfl rfl (fun H locs G => ?_)
  generalize hv : (s_X4_weight f z (xs (i + 1))) = v at G ⊢
  have hq := pq_weight I z (xs (i + 1))
  rw [hu, hv] at hq
  subst hq
  refine lv_icmp_eq (tgt := 717) hx hb dL_law_524 (by decide) (fun _ => ?_) (fun cc => absurd rfl cc)
  exact hk _ _ ls ⟨sc, u.2, r, e, n0, m0, p0, w0, s0, f0, sa, sr, se, sn, hs, f, g, pf, (Inv.mono I (Nat.le_add_right _ _)), G⟩ hl
set_option maxHeartbeats 4000000 in
set_option maxRecDepth 100000 in
/-- the law at sounded -/
theorem law_c15 {p : Program} {l : Launch} {ev : Env} {s : State} {m : MethodId} {below : List Frame} {meth : Method} {c : Code} {b L : Nat} {xs : Nat → Int32} {D : va_G} {cI cS : ClassId} (C0 : lw_At p s m meth c b L xs) (hL : L ≤ 2048) {x sv tl er : Nat} {a : Nat → Nat} {y nw ad pa eA : Nat} (i B : Nat) (hi : i + 4 ≤ L) (hB : B ≤ 60000) (hk : ∀ (H : Heap) (locs : List Loc) (ls : Array Slot), LawSt D cI cS s x sv tl er a y nw ad pa eA (B + 100) H locs → lv_has ls 4 [(3, .int (nI i)), (2, .ref y), (1, .ref x), (0, .ref b)] → W p l ev room_1 s m #[Value.ref b] below meth c H locs 600000 7302250 (lw_Z below #[Value.ref b] s) (F0 m 717 ls [])) : ∀ (H : Heap) (locs : List Loc) (ls : Array Slot), LawSt D cI cS s x sv tl er a y nw ad pa eA B H locs → lv_has ls 4 [(3, .int (nI i)), (2, .ref y), (1, .ref x), (0, .ref b)] → W p l ev room_1 s m #[Value.ref b] below meth c H locs 600000 7302250 (lw_Z below #[Value.ref b] s) (F0 m 529 ls []) := by
  obtain ⟨hx, hb, hr, hml, hown, hts, hX, hbl, hlocks, hgv⟩ := C0
  have hts := fun w h => hts w (wsL_law_in w h)
  have hbA : ¬ (fun q : Nat => s.heap.size ≤ q) b := Nat.not_le.mpr hbl
  have S : CallFix p m c code 4 s #[Value.ref b] wsL_law RL := ⟨hx, hb, hml, hown, hts⟩
  intro H locs ls hs0 hl
  obtain ⟨sc, z, r, e, n0, m0, p0, w0, s0, f0, sa, sr, se, sn, hs, f, g, pf, I, G⟩ := hs0
  refine lv_aload_n hx hb dL_law_529 rfl (lv_at hl 2 rfl) ?_
  refine lv_aload_n hx hb dL_law_530 rfl (lv_at hl 3 rfl) ?_
  refine lv_iload_n hx hb dL_law_531 rfl (lv_at hl 0 rfl) ?_
  refine lv_iconst (v := 1) hx hb dL_law_532 (by decide) ?_
  refine lv_iadd hx hb dL_law_533 ?_
  refine lv_lit (v := nI (i + 1)) (nI_add i 1) ?_
  refine va_sld hx hb hX hbl hbA G.2.2.2.1 (vp_in_nI (show i + 1 < L by omega) (by omega)) dL_law_534 ?_
  refine lv_lit (v := xs (i + 1)) (congrArg xs (nI_clamp (show i + 1 < 2 ^ 31 by omega))) ?_
  refine k_callF (n := 1) (As := [.int (xs (i + 1))]) (rest := []) (st1 := .int ((s_X3_sounded z r (xs (i + 1))).1) :: []) (ws1 := W3 cI cS x sv tl er a sc ((s_X3_sounded z r (xs (i + 1))).2) r e n0 m0 p0 w0 s0 f0 sa sr se (W4 cI y nw ad pa eA sn hs f g pf z ([]))) ([]) ((tl, .inr (2, [.int n0, .int m0, .int p0, .int w0, .int s0, .int f0])) :: (sv, .inl (cS, 5, .inr (.inr (.inr (.inr (fun i => some (sa i 0))))))) :: svW cI sa sr se (W4 cI y nw ad pa eA sn hs f g pf z ([]))) S G (c_X3_sounded l D cI cS x sv tl er sc z a r e (xs (i + 1)) ) gL_law_X3_sounded rfl (by decide +kernel) ⟨⟨rfl, rfl⟩, Nat.le_of_ble_eq_true rfl, Nat.le_of_ble_eq_true rfl⟩ rfl 0 rfl rfl rfl hl.1 rfl (Nat.le_of_ble_eq_true rfl) ⟨Nat.le_of_ble_eq_true rfl, Nat.le_of_ble_eq_true rfl⟩ dL_law_535 rfl rfl (fun H locs G => ?_)
  generalize hu : (s_X3_sounded z r (xs (i + 1))) = u at G ⊢
  refine lv_aload_n hx hb dL_law_538 rfl (lv_at hl 1 rfl) ?_
  refine lv_aload_n hx hb dL_law_539 rfl (lv_at hl 3 rfl) ?_
  refine lv_iload_n hx hb dL_law_540 rfl (lv_at hl 0 rfl) ?_
  refine lv_iconst (v := 1) hx hb dL_law_541 (by decide) ?_
  refine lv_iadd hx hb dL_law_542 ?_
  refine lv_lit (v := nI (i + 1)) (nI_add i 1) ?_
  refine va_sld hx hb hX hbl hbA G.2.2.2.1 (vp_in_nI (show i + 1 < L by omega) (by omega)) dL_law_543 ?_
  refine lv_lit (v := xs (i + 1)) (congrArg xs (nI_clamp (show i + 1 < 2 ^ 31 by omega))) ?_
  refine k_callF (n := 1) (As := [.int (xs (i + 1))]) (rest := [.int u.1]) (st1 := .int ((s_X4_sounded f z (xs (i + 1))).1) :: [.int u.1]) (ws1 := W3 cI cS x sv tl er a sc u.2 r e n0 m0 p0 w0 s0 f0 sa sr se (W4 cI y nw ad pa eA sn hs f g pf ((s_X4_sounded f z (xs (i + 1))).2) ([]))) (W3 cI cS x sv tl er a sc u.2 r e n0 m0 p0 w0 s0 f0 sa sr se ([])) ([]) S G (c_X4_sounded l D cI cS y nw ad pa eA sn hs f g pf z (xs (i + 1)) ) gL_law_X4_sounded rfl (by decide +kernel) ⟨⟨rfl, rfl⟩, Nat.le_of_ble_eq_true rfl, Nat.le_of_ble_eq_true rfl⟩ rfl 0 rfl rfl rfl hl.1 rfl (Nat.le_of_ble_eq_true rfl) ⟨Nat.le_of_ble_eq_true rfl, Nat.le_of_ble_eq_true rfl⟩ dL_law_544 rfl rfl (fun H locs G => ?_)
  generalize hv : (s_X4_sounded f z (xs (i + 1))) = v at G ⊢
  have hq := pq_sounded I z (xs (i + 1))
  rw [hu, hv] at hq
  subst hq
  refine lv_icmp_eq (tgt := 717) hx hb dL_law_547 (by decide) (fun _ => ?_) (fun cc => absurd rfl cc)
  exact hk _ _ ls ⟨sc, u.2, r, e, n0, m0, p0, w0, s0, f0, sa, sr, se, sn, hs, f, g, pf, (Inv.mono I (Nat.le_add_right _ _)), G⟩ hl
set_option maxHeartbeats 4000000 in
set_option maxRecDepth 100000 in
/-- the law at missed -/
theorem law_c16 {p : Program} {l : Launch} {ev : Env} {s : State} {m : MethodId} {below : List Frame} {meth : Method} {c : Code} {b L : Nat} {xs : Nat → Int32} {D : va_G} {cI cS : ClassId} (C0 : lw_At p s m meth c b L xs) (hL : L ≤ 2048) {x sv tl er : Nat} {a : Nat → Nat} {y nw ad pa eA : Nat} (i B : Nat) (hi : i + 4 ≤ L) (hB : B ≤ 60000) (hk : ∀ (H : Heap) (locs : List Loc) (ls : Array Slot), LawSt D cI cS s x sv tl er a y nw ad pa eA (B + 100) H locs → lv_has ls 4 [(3, .int (nI i)), (2, .ref y), (1, .ref x), (0, .ref b)] → W p l ev room_1 s m #[Value.ref b] below meth c H locs 600000 7302250 (lw_Z below #[Value.ref b] s) (F0 m 717 ls [])) : ∀ (H : Heap) (locs : List Loc) (ls : Array Slot), LawSt D cI cS s x sv tl er a y nw ad pa eA B H locs → lv_has ls 4 [(3, .int (nI i)), (2, .ref y), (1, .ref x), (0, .ref b)] → W p l ev room_1 s m #[Value.ref b] below meth c H locs 600000 7302250 (lw_Z below #[Value.ref b] s) (F0 m 552 ls []) := by
  obtain ⟨hx, hb, hr, hml, hown, hts, hX, hbl, hlocks, hgv⟩ := C0
  have hts := fun w h => hts w (wsL_law_in w h)
  have hbA : ¬ (fun q : Nat => s.heap.size ≤ q) b := Nat.not_le.mpr hbl
  have S : CallFix p m c code 4 s #[Value.ref b] wsL_law RL := ⟨hx, hb, hml, hown, hts⟩
  intro H locs ls hs0 hl
  obtain ⟨sc, z, r, e, n0, m0, p0, w0, s0, f0, sa, sr, se, sn, hs, f, g, pf, I, G⟩ := hs0
  refine lv_aload_n hx hb dL_law_552 rfl (lv_at hl 2 rfl) ?_
  refine lv_aload_n hx hb dL_law_553 rfl (lv_at hl 3 rfl) ?_
  refine lv_iload_n hx hb dL_law_554 rfl (lv_at hl 0 rfl) ?_
  refine lv_iconst (v := 1) hx hb dL_law_555 (by decide) ?_
  refine lv_iadd hx hb dL_law_556 ?_
  refine lv_lit (v := nI (i + 1)) (nI_add i 1) ?_
  refine va_sld hx hb hX hbl hbA G.2.2.2.1 (vp_in_nI (show i + 1 < L by omega) (by omega)) dL_law_557 ?_
  refine lv_lit (v := xs (i + 1)) (congrArg xs (nI_clamp (show i + 1 < 2 ^ 31 by omega))) ?_
  refine k_callF (n := 1) (As := [.int (xs (i + 1))]) (rest := []) (st1 := .int ((s_X3_missed z r (xs (i + 1))).1) :: []) (ws1 := W3 cI cS x sv tl er a sc ((s_X3_missed z r (xs (i + 1))).2) r e n0 m0 p0 w0 s0 f0 sa sr se (W4 cI y nw ad pa eA sn hs f g pf z ([]))) ([]) ((tl, .inr (2, [.int n0, .int m0, .int p0, .int w0, .int s0, .int f0])) :: (sv, .inl (cS, 5, .inr (.inr (.inr (.inr (fun i => some (sa i 0))))))) :: svW cI sa sr se (W4 cI y nw ad pa eA sn hs f g pf z ([]))) S G (c_X3_missed l D cI cS x sv tl er sc z a r e (xs (i + 1)) ) gL_law_X3_missed rfl (by decide +kernel) ⟨⟨rfl, rfl⟩, Nat.le_of_ble_eq_true rfl, Nat.le_of_ble_eq_true rfl⟩ rfl 0 rfl rfl rfl hl.1 rfl (Nat.le_of_ble_eq_true rfl) ⟨Nat.le_of_ble_eq_true rfl, Nat.le_of_ble_eq_true rfl⟩ dL_law_558 rfl rfl (fun H locs G => ?_)
  generalize hu : (s_X3_missed z r (xs (i + 1))) = u at G ⊢
  refine lv_aload_n hx hb dL_law_561 rfl (lv_at hl 1 rfl) ?_
  refine lv_aload_n hx hb dL_law_562 rfl (lv_at hl 3 rfl) ?_
  refine lv_iload_n hx hb dL_law_563 rfl (lv_at hl 0 rfl) ?_
  refine lv_iconst (v := 1) hx hb dL_law_564 (by decide) ?_
  refine lv_iadd hx hb dL_law_565 ?_
  refine lv_lit (v := nI (i + 1)) (nI_add i 1) ?_
  refine va_sld hx hb hX hbl hbA G.2.2.2.1 (vp_in_nI (show i + 1 < L by omega) (by omega)) dL_law_566 ?_
  refine lv_lit (v := xs (i + 1)) (congrArg xs (nI_clamp (show i + 1 < 2 ^ 31 by omega))) ?_
  refine k_callF (n := 1) (As := [.int (xs (i + 1))]) (rest := [.int u.1]) (st1 := .int ((s_X4_missed f z (xs (i + 1))).1) :: [.int u.1]) (ws1 := W3 cI cS x sv tl er a sc u.2 r e n0 m0 p0 w0 s0 f0 sa sr se (W4 cI y nw ad pa eA sn hs f g pf ((s_X4_missed f z (xs (i + 1))).2) ([]))) (W3 cI cS x sv tl er a sc u.2 r e n0 m0 p0 w0 s0 f0 sa sr se ([])) ([]) S G (c_X4_missed l D cI cS y nw ad pa eA sn hs f g pf z (xs (i + 1)) ) gL_law_X4_missed rfl (by decide +kernel) ⟨⟨rfl, rfl⟩, Nat.le_of_ble_eq_true rfl, Nat.le_of_ble_eq_true rfl⟩ rfl 0 rfl rfl rfl hl.1 rfl (Nat.le_of_ble_eq_true rfl) ⟨Nat.le_of_ble_eq_true rfl, Nat.le_of_ble_eq_true rfl⟩ dL_law_567 rfl rfl (fun H locs G => ?_)
  generalize hv : (s_X4_missed f z (xs (i + 1))) = v at G ⊢
  have hq := pq_missed I z (xs (i + 1))
  rw [hu, hv] at hq
  subst hq
  refine lv_icmp_eq (tgt := 717) hx hb dL_law_570 (by decide) (fun _ => ?_) (fun cc => absurd rfl cc)
  exact hk _ _ ls ⟨sc, u.2, r, e, n0, m0, p0, w0, s0, f0, sa, sr, se, sn, hs, f, g, pf, (Inv.mono I (Nat.le_add_right _ _)), G⟩ hl
set_option maxHeartbeats 4000000 in
set_option maxRecDepth 100000 in
/-- the law at isSilent -/
theorem law_c17 {p : Program} {l : Launch} {ev : Env} {s : State} {m : MethodId} {below : List Frame} {meth : Method} {c : Code} {b L : Nat} {xs : Nat → Int32} {D : va_G} {cI cS : ClassId} (C0 : lw_At p s m meth c b L xs) (hL : L ≤ 2048) {x sv tl er : Nat} {a : Nat → Nat} {y nw ad pa eA : Nat} (i B : Nat) (hi : i + 4 ≤ L) (hB : B ≤ 60000) (hk : ∀ (H : Heap) (locs : List Loc) (ls : Array Slot), LawSt D cI cS s x sv tl er a y nw ad pa eA (B + 100) H locs → lv_has ls 4 [(3, .int (nI i)), (2, .ref y), (1, .ref x), (0, .ref b)] → W p l ev room_1 s m #[Value.ref b] below meth c H locs 600000 7302250 (lw_Z below #[Value.ref b] s) (F0 m 717 ls [])) : ∀ (H : Heap) (locs : List Loc) (ls : Array Slot), LawSt D cI cS s x sv tl er a y nw ad pa eA B H locs → lv_has ls 4 [(3, .int (nI i)), (2, .ref y), (1, .ref x), (0, .ref b)] → W p l ev room_1 s m #[Value.ref b] below meth c H locs 600000 7302250 (lw_Z below #[Value.ref b] s) (F0 m 575 ls []) := by
  obtain ⟨hx, hb, hr, hml, hown, hts, hX, hbl, hlocks, hgv⟩ := C0
  have hts := fun w h => hts w (wsL_law_in w h)
  have hbA : ¬ (fun q : Nat => s.heap.size ≤ q) b := Nat.not_le.mpr hbl
  have S : CallFix p m c code 4 s #[Value.ref b] wsL_law RL := ⟨hx, hb, hml, hown, hts⟩
  intro H locs ls hs0 hl
  obtain ⟨sc, z, r, e, n0, m0, p0, w0, s0, f0, sa, sr, se, sn, hs, f, g, pf, I, G⟩ := hs0
  refine lv_aload_n hx hb dL_law_575 rfl (lv_at hl 2 rfl) ?_
  refine lv_aload_n hx hb dL_law_576 rfl (lv_at hl 3 rfl) ?_
  refine lv_iload_n hx hb dL_law_577 rfl (lv_at hl 0 rfl) ?_
  refine lv_iconst (v := 1) hx hb dL_law_578 (by decide) ?_
  refine lv_iadd hx hb dL_law_579 ?_
  refine lv_lit (v := nI (i + 1)) (nI_add i 1) ?_
  refine va_sld hx hb hX hbl hbA G.2.2.2.1 (vp_in_nI (show i + 1 < L by omega) (by omega)) dL_law_580 ?_
  refine lv_lit (v := xs (i + 1)) (congrArg xs (nI_clamp (show i + 1 < 2 ^ 31 by omega))) ?_
  refine k_callF (n := 1) (As := [.int (xs (i + 1))]) (rest := []) (st1 := .int ((s_X3_isSilent z r (xs (i + 1))).1) :: []) (ws1 := W3 cI cS x sv tl er a sc ((s_X3_isSilent z r (xs (i + 1))).2) r e n0 m0 p0 w0 s0 f0 sa sr se (W4 cI y nw ad pa eA sn hs f g pf z ([]))) ([]) ((tl, .inr (2, [.int n0, .int m0, .int p0, .int w0, .int s0, .int f0])) :: (sv, .inl (cS, 5, .inr (.inr (.inr (.inr (fun i => some (sa i 0))))))) :: svW cI sa sr se (W4 cI y nw ad pa eA sn hs f g pf z ([]))) S G (c_X3_isSilent l D cI cS x sv tl er sc z a r e (xs (i + 1)) ) gL_law_X3_isSilent rfl (by decide +kernel) ⟨⟨rfl, rfl⟩, Nat.le_of_ble_eq_true rfl, Nat.le_of_ble_eq_true rfl⟩ rfl 0 rfl rfl rfl hl.1 rfl (Nat.le_of_ble_eq_true rfl) ⟨Nat.le_of_ble_eq_true rfl, Nat.le_of_ble_eq_true rfl⟩ dL_law_581 rfl rfl (fun H locs G => ?_)
  generalize hu : (s_X3_isSilent z r (xs (i + 1))) = u at G ⊢
  refine lv_aload_n hx hb dL_law_584 rfl (lv_at hl 1 rfl) ?_
  refine lv_aload_n hx hb dL_law_585 rfl (lv_at hl 3 rfl) ?_
  refine lv_iload_n hx hb dL_law_586 rfl (lv_at hl 0 rfl) ?_
  refine lv_iconst (v := 1) hx hb dL_law_587 (by decide) ?_
  refine lv_iadd hx hb dL_law_588 ?_
  refine lv_lit (v := nI (i + 1)) (nI_add i 1) ?_
  refine va_sld hx hb hX hbl hbA G.2.2.2.1 (vp_in_nI (show i + 1 < L by omega) (by omega)) dL_law_589 ?_
  refine lv_lit (v := xs (i + 1)) (congrArg xs (nI_clamp (show i + 1 < 2 ^ 31 by omega))) ?_
  refine k_callF (n := 1) (As := [.int (xs (i + 1))]) (rest := [.int u.1]) (st1 := .int ((s_X4_isSilent f z (xs (i + 1))).1) :: [.int u.1]) (ws1 := W3 cI cS x sv tl er a sc u.2 r e n0 m0 p0 w0 s0 f0 sa sr se (W4 cI y nw ad pa eA sn hs f g pf ((s_X4_isSilent f z (xs (i + 1))).2) ([]))) (W3 cI cS x sv tl er a sc u.2 r e n0 m0 p0 w0 s0 f0 sa sr se ([])) ([]) S G (c_X4_isSilent l D cI cS y nw ad pa eA sn hs f g pf z (xs (i + 1)) ) gL_law_X4_isSilent rfl (by decide +kernel) ⟨⟨rfl, rfl⟩, Nat.le_of_ble_eq_true rfl, Nat.le_of_ble_eq_true rfl⟩ rfl 0 rfl rfl rfl hl.1 rfl (Nat.le_of_ble_eq_true rfl) ⟨Nat.le_of_ble_eq_true rfl, Nat.le_of_ble_eq_true rfl⟩ dL_law_590 rfl rfl (fun H locs G => ?_)
  generalize hv : (s_X4_isSilent f z (xs (i + 1))) = v at G ⊢
  have hq := pq_isSilent I z (xs (i + 1))
  rw [hu, hv] at hq
  subst hq
  refine lv_icmp_eq (tgt := 717) hx hb dL_law_593 (by decide) (fun _ => ?_) (fun cc => absurd rfl cc)
  exact hk _ _ ls ⟨sc, u.2, r, e, n0, m0, p0, w0, s0, f0, sa, sr, se, sn, hs, f, g, pf, (Inv.mono I (Nat.le_add_right _ _)), G⟩ hl
set_option maxHeartbeats 4000000 in
set_option maxRecDepth 100000 in
/-- the law at strikeMinute -/
theorem law_c18 {p : Program} {l : Launch} {ev : Env} {s : State} {m : MethodId} {below : List Frame} {meth : Method} {c : Code} {b L : Nat} {xs : Nat → Int32} {D : va_G} {cI cS : ClassId} (C0 : lw_At p s m meth c b L xs) (hL : L ≤ 2048) {x sv tl er : Nat} {a : Nat → Nat} {y nw ad pa eA : Nat} (i B : Nat) (hi : i + 4 ≤ L) (hB : B ≤ 60000) (hk : ∀ (H : Heap) (locs : List Loc) (ls : Array Slot), LawSt D cI cS s x sv tl er a y nw ad pa eA (B + 100) H locs → lv_has ls 4 [(3, .int (nI i)), (2, .ref y), (1, .ref x), (0, .ref b)] → W p l ev room_1 s m #[Value.ref b] below meth c H locs 600000 7302250 (lw_Z below #[Value.ref b] s) (F0 m 717 ls [])) : ∀ (H : Heap) (locs : List Loc) (ls : Array Slot), LawSt D cI cS s x sv tl er a y nw ad pa eA B H locs → lv_has ls 4 [(3, .int (nI i)), (2, .ref y), (1, .ref x), (0, .ref b)] → W p l ev room_1 s m #[Value.ref b] below meth c H locs 600000 7302250 (lw_Z below #[Value.ref b] s) (F0 m 598 ls []) := by
  obtain ⟨hx, hb, hr, hml, hown, hts, hX, hbl, hlocks, hgv⟩ := C0
  have hts := fun w h => hts w (wsL_law_in w h)
  have hbA : ¬ (fun q : Nat => s.heap.size ≤ q) b := Nat.not_le.mpr hbl
  have S : CallFix p m c code 4 s #[Value.ref b] wsL_law RL := ⟨hx, hb, hml, hown, hts⟩
  intro H locs ls hs0 hl
  obtain ⟨sc, z, r, e, n0, m0, p0, w0, s0, f0, sa, sr, se, sn, hs, f, g, pf, I, G⟩ := hs0
  refine lv_aload_n hx hb dL_law_598 rfl (lv_at hl 2 rfl) ?_
  refine lv_aload_n hx hb dL_law_599 rfl (lv_at hl 3 rfl) ?_
  refine lv_iload_n hx hb dL_law_600 rfl (lv_at hl 0 rfl) ?_
  refine lv_iconst (v := 1) hx hb dL_law_601 (by decide) ?_
  refine lv_iadd hx hb dL_law_602 ?_
  refine lv_lit (v := nI (i + 1)) (nI_add i 1) ?_
  refine va_sld hx hb hX hbl hbA G.2.2.2.1 (vp_in_nI (show i + 1 < L by omega) (by omega)) dL_law_603 ?_
  refine lv_lit (v := xs (i + 1)) (congrArg xs (nI_clamp (show i + 1 < 2 ^ 31 by omega))) ?_
  refine k_callF (n := 1) (As := [.int (xs (i + 1))]) (rest := []) (st1 := .int ((s_X3_strikeMinute z r e (xs (i + 1))).1) :: []) (ws1 := W3 cI cS x sv tl er a sc ((s_X3_strikeMinute z r e (xs (i + 1))).2) r e n0 m0 p0 w0 s0 f0 sa sr se (W4 cI y nw ad pa eA sn hs f g pf z ([]))) ([]) ((tl, .inr (2, [.int n0, .int m0, .int p0, .int w0, .int s0, .int f0])) :: (sv, .inl (cS, 5, .inr (.inr (.inr (.inr (fun i => some (sa i 0))))))) :: svW cI sa sr se (W4 cI y nw ad pa eA sn hs f g pf z ([]))) S G (c_X3_strikeMinute l D cI cS x sv tl er sc z a r e (xs (i + 1)) (Inv.cn I)) gL_law_X3_strikeMinute rfl (by decide +kernel) ⟨⟨rfl, rfl⟩, Nat.le_of_ble_eq_true rfl, Nat.le_of_ble_eq_true rfl⟩ rfl 0 rfl rfl rfl hl.1 rfl (Nat.le_of_ble_eq_true rfl) ⟨Nat.le_of_ble_eq_true rfl, Nat.le_of_ble_eq_true rfl⟩ dL_law_604 rfl rfl (fun H locs G => ?_)
  generalize hu : (s_X3_strikeMinute z r e (xs (i + 1))) = u at G ⊢
  refine lv_aload_n hx hb dL_law_607 rfl (lv_at hl 1 rfl) ?_
  refine lv_aload_n hx hb dL_law_608 rfl (lv_at hl 3 rfl) ?_
  refine lv_iload_n hx hb dL_law_609 rfl (lv_at hl 0 rfl) ?_
  refine lv_iconst (v := 1) hx hb dL_law_610 (by decide) ?_
  refine lv_iadd hx hb dL_law_611 ?_
  refine lv_lit (v := nI (i + 1)) (nI_add i 1) ?_
  refine va_sld hx hb hX hbl hbA G.2.2.2.1 (vp_in_nI (show i + 1 < L by omega) (by omega)) dL_law_612 ?_
  refine lv_lit (v := xs (i + 1)) (congrArg xs (nI_clamp (show i + 1 < 2 ^ 31 by omega))) ?_
  refine k_callF (n := 1) (As := [.int (xs (i + 1))]) (rest := [.int u.1]) (st1 := .int ((s_X4_strikeMinute f z (xs (i + 1))).1) :: [.int u.1]) (ws1 := W3 cI cS x sv tl er a sc u.2 r e n0 m0 p0 w0 s0 f0 sa sr se (W4 cI y nw ad pa eA sn hs f g pf ((s_X4_strikeMinute f z (xs (i + 1))).2) ([]))) (W3 cI cS x sv tl er a sc u.2 r e n0 m0 p0 w0 s0 f0 sa sr se ([])) ([]) S G (c_X4_strikeMinute l D cI cS y nw ad pa eA sn hs f g pf z (xs (i + 1)) (Inv.cn4 I)) gL_law_X4_strikeMinute rfl (by decide +kernel) ⟨⟨rfl, rfl⟩, Nat.le_of_ble_eq_true rfl, Nat.le_of_ble_eq_true rfl⟩ rfl 0 rfl rfl rfl hl.1 rfl (Nat.le_of_ble_eq_true rfl) ⟨Nat.le_of_ble_eq_true rfl, Nat.le_of_ble_eq_true rfl⟩ dL_law_613 rfl rfl (fun H locs G => ?_)
  generalize hv : (s_X4_strikeMinute f z (xs (i + 1))) = v at G ⊢
  have hq := pq_strikeMinute I z (xs (i + 1))
  rw [hu, hv] at hq
  subst hq
  refine lv_icmp_eq (tgt := 717) hx hb dL_law_616 (by decide) (fun _ => ?_) (fun cc => absurd rfl cc)
  exact hk _ _ ls ⟨sc, u.2, r, e, n0, m0, p0, w0, s0, f0, sa, sr, se, sn, hs, f, g, pf, (Inv.mono I (Nat.le_add_right _ _)), G⟩ hl
set_option maxHeartbeats 4000000 in
set_option maxRecDepth 100000 in
/-- the law at strikeTrain -/
theorem law_c19 {p : Program} {l : Launch} {ev : Env} {s : State} {m : MethodId} {below : List Frame} {meth : Method} {c : Code} {b L : Nat} {xs : Nat → Int32} {D : va_G} {cI cS : ClassId} (C0 : lw_At p s m meth c b L xs) (hL : L ≤ 2048) {x sv tl er : Nat} {a : Nat → Nat} {y nw ad pa eA : Nat} (i B : Nat) (hi : i + 4 ≤ L) (hB : B ≤ 60000) (hk : ∀ (H : Heap) (locs : List Loc) (ls : Array Slot), LawSt D cI cS s x sv tl er a y nw ad pa eA (B + 100) H locs → lv_has ls 4 [(3, .int (nI i)), (2, .ref y), (1, .ref x), (0, .ref b)] → W p l ev room_1 s m #[Value.ref b] below meth c H locs 600000 7302250 (lw_Z below #[Value.ref b] s) (F0 m 717 ls [])) : ∀ (H : Heap) (locs : List Loc) (ls : Array Slot), LawSt D cI cS s x sv tl er a y nw ad pa eA B H locs → lv_has ls 4 [(3, .int (nI i)), (2, .ref y), (1, .ref x), (0, .ref b)] → W p l ev room_1 s m #[Value.ref b] below meth c H locs 600000 7302250 (lw_Z below #[Value.ref b] s) (F0 m 621 ls []) := by
  obtain ⟨hx, hb, hr, hml, hown, hts, hX, hbl, hlocks, hgv⟩ := C0
  have hts := fun w h => hts w (wsL_law_in w h)
  have hbA : ¬ (fun q : Nat => s.heap.size ≤ q) b := Nat.not_le.mpr hbl
  have S : CallFix p m c code 4 s #[Value.ref b] wsL_law RL := ⟨hx, hb, hml, hown, hts⟩
  intro H locs ls hs0 hl
  obtain ⟨sc, z, r, e, n0, m0, p0, w0, s0, f0, sa, sr, se, sn, hs, f, g, pf, I, G⟩ := hs0
  refine lv_aload_n hx hb dL_law_621 rfl (lv_at hl 2 rfl) ?_
  refine lv_aload_n hx hb dL_law_622 rfl (lv_at hl 3 rfl) ?_
  refine lv_iload_n hx hb dL_law_623 rfl (lv_at hl 0 rfl) ?_
  refine lv_iconst (v := 1) hx hb dL_law_624 (by decide) ?_
  refine lv_iadd hx hb dL_law_625 ?_
  refine lv_lit (v := nI (i + 1)) (nI_add i 1) ?_
  refine va_sld hx hb hX hbl hbA G.2.2.2.1 (vp_in_nI (show i + 1 < L by omega) (by omega)) dL_law_626 ?_
  refine lv_lit (v := xs (i + 1)) (congrArg xs (nI_clamp (show i + 1 < 2 ^ 31 by omega))) ?_
  refine k_callF (n := 1) (As := [.int (xs (i + 1))]) (rest := []) (st1 := .int ((s_X3_strikeTrain z r e (xs (i + 1))).1) :: []) (ws1 := W3 cI cS x sv tl er a sc ((s_X3_strikeTrain z r e (xs (i + 1))).2) r e n0 m0 p0 w0 s0 f0 sa sr se (W4 cI y nw ad pa eA sn hs f g pf z ([]))) ([]) ((tl, .inr (2, [.int n0, .int m0, .int p0, .int w0, .int s0, .int f0])) :: (sv, .inl (cS, 5, .inr (.inr (.inr (.inr (fun i => some (sa i 0))))))) :: svW cI sa sr se (W4 cI y nw ad pa eA sn hs f g pf z ([]))) S G (c_X3_strikeTrain l D cI cS x sv tl er sc z a r e (xs (i + 1)) (Inv.cn I)) gL_law_X3_strikeTrain rfl (by decide +kernel) ⟨⟨rfl, rfl⟩, Nat.le_of_ble_eq_true rfl, Nat.le_of_ble_eq_true rfl⟩ rfl 0 rfl rfl rfl hl.1 rfl (Nat.le_of_ble_eq_true rfl) ⟨Nat.le_of_ble_eq_true rfl, Nat.le_of_ble_eq_true rfl⟩ dL_law_627 rfl rfl (fun H locs G => ?_)
  generalize hu : (s_X3_strikeTrain z r e (xs (i + 1))) = u at G ⊢
  refine lv_aload_n hx hb dL_law_630 rfl (lv_at hl 1 rfl) ?_
  refine lv_aload_n hx hb dL_law_631 rfl (lv_at hl 3 rfl) ?_
  refine lv_iload_n hx hb dL_law_632 rfl (lv_at hl 0 rfl) ?_
  refine lv_iconst (v := 1) hx hb dL_law_633 (by decide) ?_
  refine lv_iadd hx hb dL_law_634 ?_
  refine lv_lit (v := nI (i + 1)) (nI_add i 1) ?_
  refine va_sld hx hb hX hbl hbA G.2.2.2.1 (vp_in_nI (show i + 1 < L by omega) (by omega)) dL_law_635 ?_
  refine lv_lit (v := xs (i + 1)) (congrArg xs (nI_clamp (show i + 1 < 2 ^ 31 by omega))) ?_
  refine k_callF (n := 1) (As := [.int (xs (i + 1))]) (rest := [.int u.1]) (st1 := .int ((s_X4_strikeTrain f z (xs (i + 1))).1) :: [.int u.1]) (ws1 := W3 cI cS x sv tl er a sc u.2 r e n0 m0 p0 w0 s0 f0 sa sr se (W4 cI y nw ad pa eA sn hs f g pf ((s_X4_strikeTrain f z (xs (i + 1))).2) ([]))) (W3 cI cS x sv tl er a sc u.2 r e n0 m0 p0 w0 s0 f0 sa sr se ([])) ([]) S G (c_X4_strikeTrain l D cI cS y nw ad pa eA sn hs f g pf z (xs (i + 1)) (Inv.cn4 I)) gL_law_X4_strikeTrain rfl (by decide +kernel) ⟨⟨rfl, rfl⟩, Nat.le_of_ble_eq_true rfl, Nat.le_of_ble_eq_true rfl⟩ rfl 0 rfl rfl rfl hl.1 rfl (Nat.le_of_ble_eq_true rfl) ⟨Nat.le_of_ble_eq_true rfl, Nat.le_of_ble_eq_true rfl⟩ dL_law_636 rfl rfl (fun H locs G => ?_)
  generalize hv : (s_X4_strikeTrain f z (xs (i + 1))) = v at G ⊢
  have hq := pq_strikeTrain I z (xs (i + 1))
  rw [hu, hv] at hq
  subst hq
  refine lv_icmp_eq (tgt := 717) hx hb dL_law_639 (by decide) (fun _ => ?_) (fun cc => absurd rfl cc)
  exact hk _ _ ls ⟨sc, u.2, r, e, n0, m0, p0, w0, s0, f0, sa, sr, se, sn, hs, f, g, pf, (Inv.mono I (Nat.le_add_right _ _)), G⟩ hl
set_option maxHeartbeats 4000000 in
set_option maxRecDepth 100000 in
/-- the law at strikeBlows -/
theorem law_c20 {p : Program} {l : Launch} {ev : Env} {s : State} {m : MethodId} {below : List Frame} {meth : Method} {c : Code} {b L : Nat} {xs : Nat → Int32} {D : va_G} {cI cS : ClassId} (C0 : lw_At p s m meth c b L xs) (hL : L ≤ 2048) {x sv tl er : Nat} {a : Nat → Nat} {y nw ad pa eA : Nat} (i B : Nat) (hi : i + 4 ≤ L) (hB : B ≤ 60000) (hk : ∀ (H : Heap) (locs : List Loc) (ls : Array Slot), LawSt D cI cS s x sv tl er a y nw ad pa eA (B + 100) H locs → lv_has ls 4 [(3, .int (nI i)), (2, .ref y), (1, .ref x), (0, .ref b)] → W p l ev room_1 s m #[Value.ref b] below meth c H locs 600000 7302250 (lw_Z below #[Value.ref b] s) (F0 m 717 ls [])) : ∀ (H : Heap) (locs : List Loc) (ls : Array Slot), LawSt D cI cS s x sv tl er a y nw ad pa eA B H locs → lv_has ls 4 [(3, .int (nI i)), (2, .ref y), (1, .ref x), (0, .ref b)] → W p l ev room_1 s m #[Value.ref b] below meth c H locs 600000 7302250 (lw_Z below #[Value.ref b] s) (F0 m 644 ls []) := by
  obtain ⟨hx, hb, hr, hml, hown, hts, hX, hbl, hlocks, hgv⟩ := C0
  have hts := fun w h => hts w (wsL_law_in w h)
  have hbA : ¬ (fun q : Nat => s.heap.size ≤ q) b := Nat.not_le.mpr hbl
  have S : CallFix p m c code 4 s #[Value.ref b] wsL_law RL := ⟨hx, hb, hml, hown, hts⟩
  intro H locs ls hs0 hl
  obtain ⟨sc, z, r, e, n0, m0, p0, w0, s0, f0, sa, sr, se, sn, hs, f, g, pf, I, G⟩ := hs0
  refine lv_aload_n hx hb dL_law_644 rfl (lv_at hl 2 rfl) ?_
  refine lv_aload_n hx hb dL_law_645 rfl (lv_at hl 3 rfl) ?_
  refine lv_iload_n hx hb dL_law_646 rfl (lv_at hl 0 rfl) ?_
  refine lv_iconst (v := 1) hx hb dL_law_647 (by decide) ?_
  refine lv_iadd hx hb dL_law_648 ?_
  refine lv_lit (v := nI (i + 1)) (nI_add i 1) ?_
  refine va_sld hx hb hX hbl hbA G.2.2.2.1 (vp_in_nI (show i + 1 < L by omega) (by omega)) dL_law_649 ?_
  refine lv_lit (v := xs (i + 1)) (congrArg xs (nI_clamp (show i + 1 < 2 ^ 31 by omega))) ?_
  refine k_callF (n := 1) (As := [.int (xs (i + 1))]) (rest := []) (st1 := .int ((s_X3_strikeBlows z r e (xs (i + 1))).1) :: []) (ws1 := W3 cI cS x sv tl er a sc ((s_X3_strikeBlows z r e (xs (i + 1))).2) r e n0 m0 p0 w0 s0 f0 sa sr se (W4 cI y nw ad pa eA sn hs f g pf z ([]))) ([]) ((tl, .inr (2, [.int n0, .int m0, .int p0, .int w0, .int s0, .int f0])) :: (sv, .inl (cS, 5, .inr (.inr (.inr (.inr (fun i => some (sa i 0))))))) :: svW cI sa sr se (W4 cI y nw ad pa eA sn hs f g pf z ([]))) S G (c_X3_strikeBlows l D cI cS x sv tl er sc z a r e (xs (i + 1)) (Inv.cn I)) gL_law_X3_strikeBlows rfl (by decide +kernel) ⟨⟨rfl, rfl⟩, Nat.le_of_ble_eq_true rfl, Nat.le_of_ble_eq_true rfl⟩ rfl 0 rfl rfl rfl hl.1 rfl (Nat.le_of_ble_eq_true rfl) ⟨Nat.le_of_ble_eq_true rfl, Nat.le_of_ble_eq_true rfl⟩ dL_law_650 rfl rfl (fun H locs G => ?_)
  generalize hu : (s_X3_strikeBlows z r e (xs (i + 1))) = u at G ⊢
  refine lv_aload_n hx hb dL_law_653 rfl (lv_at hl 1 rfl) ?_
  refine lv_aload_n hx hb dL_law_654 rfl (lv_at hl 3 rfl) ?_
  refine lv_iload_n hx hb dL_law_655 rfl (lv_at hl 0 rfl) ?_
  refine lv_iconst (v := 1) hx hb dL_law_656 (by decide) ?_
  refine lv_iadd hx hb dL_law_657 ?_
  refine lv_lit (v := nI (i + 1)) (nI_add i 1) ?_
  refine va_sld hx hb hX hbl hbA G.2.2.2.1 (vp_in_nI (show i + 1 < L by omega) (by omega)) dL_law_658 ?_
  refine lv_lit (v := xs (i + 1)) (congrArg xs (nI_clamp (show i + 1 < 2 ^ 31 by omega))) ?_
  refine k_callF (n := 1) (As := [.int (xs (i + 1))]) (rest := [.int u.1]) (st1 := .int ((s_X4_strikeBlows f z (xs (i + 1))).1) :: [.int u.1]) (ws1 := W3 cI cS x sv tl er a sc u.2 r e n0 m0 p0 w0 s0 f0 sa sr se (W4 cI y nw ad pa eA sn hs f g pf ((s_X4_strikeBlows f z (xs (i + 1))).2) ([]))) (W3 cI cS x sv tl er a sc u.2 r e n0 m0 p0 w0 s0 f0 sa sr se ([])) ([]) S G (c_X4_strikeBlows l D cI cS y nw ad pa eA sn hs f g pf z (xs (i + 1)) (Inv.cn4 I)) gL_law_X4_strikeBlows rfl (by decide +kernel) ⟨⟨rfl, rfl⟩, Nat.le_of_ble_eq_true rfl, Nat.le_of_ble_eq_true rfl⟩ rfl 0 rfl rfl rfl hl.1 rfl (Nat.le_of_ble_eq_true rfl) ⟨Nat.le_of_ble_eq_true rfl, Nat.le_of_ble_eq_true rfl⟩ dL_law_659 rfl rfl (fun H locs G => ?_)
  generalize hv : (s_X4_strikeBlows f z (xs (i + 1))) = v at G ⊢
  have hq := pq_strikeBlows I z (xs (i + 1))
  rw [hu, hv] at hq
  subst hq
  refine lv_icmp_eq (tgt := 717) hx hb dL_law_662 (by decide) (fun _ => ?_) (fun cc => absurd rfl cc)
  exact hk _ _ ls ⟨sc, u.2, r, e, n0, m0, p0, w0, s0, f0, sa, sr, se, sn, hs, f, g, pf, (Inv.mono I (Nat.le_add_right _ _)), G⟩ hl
set_option maxHeartbeats 4000000 in
set_option maxRecDepth 100000 in
/-- the law at undo -/
theorem law_c21 {p : Program} {l : Launch} {ev : Env} {s : State} {m : MethodId} {below : List Frame} {meth : Method} {c : Code} {b L : Nat} {xs : Nat → Int32} {D : va_G} {cI cS : ClassId} (C0 : lw_At p s m meth c b L xs) (hL : L ≤ 2048) {x sv tl er : Nat} {a : Nat → Nat} {y nw ad pa eA : Nat} (i B : Nat) (hi : i + 4 ≤ L) (hB : B ≤ 60000) (hk : ∀ (H : Heap) (locs : List Loc) (ls : Array Slot), LawSt D cI cS s x sv tl er a y nw ad pa eA (B + 100) H locs → lv_has ls 4 [(3, .int (nI i)), (2, .ref y), (1, .ref x), (0, .ref b)] → W p l ev room_1 s m #[Value.ref b] below meth c H locs 600000 7302250 (lw_Z below #[Value.ref b] s) (F0 m 717 ls [])) : ∀ (H : Heap) (locs : List Loc) (ls : Array Slot), LawSt D cI cS s x sv tl er a y nw ad pa eA B H locs → lv_has ls 4 [(3, .int (nI i)), (2, .ref y), (1, .ref x), (0, .ref b)] → W p l ev room_1 s m #[Value.ref b] below meth c H locs 600000 7302250 (lw_Z below #[Value.ref b] s) (F0 m 667 ls []) := by
  obtain ⟨hx, hb, hr, hml, hown, hts, hX, hbl, hlocks, hgv⟩ := C0
  have hts := fun w h => hts w (wsL_law_in w h)
  have hbA : ¬ (fun q : Nat => s.heap.size ≤ q) b := Nat.not_le.mpr hbl
  have S : CallFix p m c code 4 s #[Value.ref b] wsL_law RL := ⟨hx, hb, hml, hown, hts⟩
  intro H locs ls hs0 hl
  obtain ⟨sc, z, r, e, n0, m0, p0, w0, s0, f0, sa, sr, se, sn, hs, f, g, pf, I, G⟩ := hs0
  refine lv_aload_n hx hb dL_law_667 rfl (lv_at hl 2 rfl) ?_
  refine k_callF (n := 0) (As := []) (rest := []) (st1 := .int (uRet sc) :: []) (ws1 := W3 cI cS x sv tl er a (uSc sc) (uZ sc z) (uR sc sr r) (uE sc se e) n0 m0 p0 w0 s0 f0 sa sr se (W4 cI y nw ad pa eA sn hs f g pf z ([]))) ([]) (W4 cI y nw ad pa eA sn hs f g pf z ([])) S G (c_X3_undo l D cI cS x sv tl er sc z a r e n0 m0 p0 w0 s0 f0 sa sr se (Inv.sc I)) gL_law_X3_undo rfl (by decide +kernel) ⟨⟨rfl, rfl⟩, Nat.le_of_ble_eq_true rfl, Nat.le_of_ble_eq_true rfl⟩ rfl 0 rfl rfl rfl hl.1 rfl (Nat.le_of_ble_eq_true rfl) ⟨Nat.le_of_ble_eq_true rfl, Nat.le_of_ble_eq_true rfl⟩ dL_law_668 rfl rfl (fun H locs G => ?_)
  refine lv_aload_n hx hb dL_law_671 rfl (lv_at hl 1 rfl) ?_
  refine k_callF (n := 0) (As := []) (rest := [.int (uRet sc)]) (st1 := .int (uRet sn) :: [.int (uRet sc)]) (ws1 := W3 cI cS x sv tl er a (uSc sc) (uZ sc z) (uR sc sr r) (uE sc se e) n0 m0 p0 w0 s0 f0 sa sr se (W4 cI y nw ad pa eA (uSc sn) hs (mUf sn pf f) g pf (uZ sn z) ([]))) (W3 cI cS x sv tl er a (uSc sc) (uZ sc z) (uR sc sr r) (uE sc se e) n0 m0 p0 w0 s0 f0 sa sr se ([])) ([]) S G (c_X4_undo l D cI cS y nw ad pa eA sn hs f g pf z (Inv.sn I)) gL_law_X4_undo rfl (by decide +kernel) ⟨⟨rfl, rfl⟩, Nat.le_of_ble_eq_true rfl, Nat.le_of_ble_eq_true rfl⟩ rfl 0 rfl rfl rfl hl.1 rfl (Nat.le_of_ble_eq_true rfl) ⟨Nat.le_of_ble_eq_true rfl, Nat.le_of_ble_eq_true rfl⟩ dL_law_672 rfl rfl (fun H locs G => ?_)
  have hq := pq_undo I z 
  have hq := hq sa
  obtain ⟨h1, h2, I2⟩ := hq
  refine lv_icmp_eq (tgt := 717) hx hb dL_law_675 (by decide) (fun _ => ?_) (fun cc => absurd h1 cc)
  rw [← h2] at G
  exact hk _ _ ls ⟨(uSc sc), (uZ sc z), (uR sc sr r), (uE sc se e), n0, m0, p0, w0, s0, f0, sa, sr, se, (uSc sn), hs, (mUf sn pf f), g, pf, I2, G⟩ hl
set_option maxHeartbeats 4000000 in
set_option maxRecDepth 100000 in
/-- the law at errorCount -/
theorem law_c22 {p : Program} {l : Launch} {ev : Env} {s : State} {m : MethodId} {below : List Frame} {meth : Method} {c : Code} {b L : Nat} {xs : Nat → Int32} {D : va_G} {cI cS : ClassId} (C0 : lw_At p s m meth c b L xs) (hL : L ≤ 2048) {x sv tl er : Nat} {a : Nat → Nat} {y nw ad pa eA : Nat} (i B : Nat) (hi : i + 4 ≤ L) (hB : B ≤ 60000) (hk : ∀ (H : Heap) (locs : List Loc) (ls : Array Slot), LawSt D cI cS s x sv tl er a y nw ad pa eA (B + 100) H locs → lv_has ls 4 [(3, .int (nI i)), (2, .ref y), (1, .ref x), (0, .ref b)] → W p l ev room_1 s m #[Value.ref b] below meth c H locs 600000 7302250 (lw_Z below #[Value.ref b] s) (F0 m 717 ls [])) : ∀ (H : Heap) (locs : List Loc) (ls : Array Slot), LawSt D cI cS s x sv tl er a y nw ad pa eA B H locs → lv_has ls 4 [(3, .int (nI i)), (2, .ref y), (1, .ref x), (0, .ref b)] → W p l ev room_1 s m #[Value.ref b] below meth c H locs 600000 7302250 (lw_Z below #[Value.ref b] s) (F0 m 680 ls []) := by
  obtain ⟨hx, hb, hr, hml, hown, hts, hX, hbl, hlocks, hgv⟩ := C0
  have hts := fun w h => hts w (wsL_law_in w h)
  have hbA : ¬ (fun q : Nat => s.heap.size ≤ q) b := Nat.not_le.mpr hbl
  have S : CallFix p m c code 4 s #[Value.ref b] wsL_law RL := ⟨hx, hb, hml, hown, hts⟩
  intro H locs ls hs0 hl
  obtain ⟨sc, z, r, e, n0, m0, p0, w0, s0, f0, sa, sr, se, sn, hs, f, g, pf, I, G⟩ := hs0
  refine lv_aload_n hx hb dL_law_680 rfl (lv_at hl 2 rfl) ?_
  refine lv_aload_n hx hb dL_law_681 rfl (lv_at hl 3 rfl) ?_
  refine lv_iload_n hx hb dL_law_682 rfl (lv_at hl 0 rfl) ?_
  refine lv_iconst (v := 1) hx hb dL_law_683 (by decide) ?_
  refine lv_iadd hx hb dL_law_684 ?_
  refine lv_lit (v := nI (i + 1)) (nI_add i 1) ?_
  refine va_sld hx hb hX hbl hbA G.2.2.2.1 (vp_in_nI (show i + 1 < L by omega) (by omega)) dL_law_685 ?_
  refine lv_lit (v := xs (i + 1)) (congrArg xs (nI_clamp (show i + 1 < 2 ^ 31 by omega))) ?_
  refine k_callF (n := 1) (As := [.int (xs (i + 1))]) (rest := []) (st1 := .int ((s_X3_errorCount z (xs (i + 1))).1) :: []) (ws1 := W3 cI cS x sv tl er a sc ((s_X3_errorCount z (xs (i + 1))).2) r e n0 m0 p0 w0 s0 f0 sa sr se (W4 cI y nw ad pa eA sn hs f g pf z ([]))) ([]) ((tl, .inr (2, [.int n0, .int m0, .int p0, .int w0, .int s0, .int f0])) :: (sv, .inl (cS, 5, .inr (.inr (.inr (.inr (fun i => some (sa i 0))))))) :: svW cI sa sr se (W4 cI y nw ad pa eA sn hs f g pf z ([]))) S G (c_X3_errorCount l D cI cS x sv tl er sc z a r e (xs (i + 1)) ) gL_law_X3_errorCount rfl (by decide +kernel) ⟨⟨rfl, rfl⟩, Nat.le_of_ble_eq_true rfl, Nat.le_of_ble_eq_true rfl⟩ rfl 0 rfl rfl rfl hl.1 rfl (Nat.le_of_ble_eq_true rfl) ⟨Nat.le_of_ble_eq_true rfl, Nat.le_of_ble_eq_true rfl⟩ dL_law_686 rfl rfl (fun H locs G => ?_)
  generalize hu : (s_X3_errorCount z (xs (i + 1))) = u at G ⊢
  refine lv_aload_n hx hb dL_law_689 rfl (lv_at hl 1 rfl) ?_
  refine lv_aload_n hx hb dL_law_690 rfl (lv_at hl 3 rfl) ?_
  refine lv_iload_n hx hb dL_law_691 rfl (lv_at hl 0 rfl) ?_
  refine lv_iconst (v := 1) hx hb dL_law_692 (by decide) ?_
  refine lv_iadd hx hb dL_law_693 ?_
  refine lv_lit (v := nI (i + 1)) (nI_add i 1) ?_
  refine va_sld hx hb hX hbl hbA G.2.2.2.1 (vp_in_nI (show i + 1 < L by omega) (by omega)) dL_law_694 ?_
  refine lv_lit (v := xs (i + 1)) (congrArg xs (nI_clamp (show i + 1 < 2 ^ 31 by omega))) ?_
  refine k_callF (n := 1) (As := [.int (xs (i + 1))]) (rest := [.int u.1]) (st1 := .int ((s_X4_errorCount z (xs (i + 1))).1) :: [.int u.1]) (ws1 := W3 cI cS x sv tl er a sc u.2 r e n0 m0 p0 w0 s0 f0 sa sr se (W4 cI y nw ad pa eA sn hs f g pf ((s_X4_errorCount z (xs (i + 1))).2) ([]))) (W3 cI cS x sv tl er a sc u.2 r e n0 m0 p0 w0 s0 f0 sa sr se ([])) ([]) S G (c_X4_errorCount l D cI cS y nw ad pa eA sn hs f g pf z (xs (i + 1)) ) gL_law_X4_errorCount rfl (by decide +kernel) ⟨⟨rfl, rfl⟩, Nat.le_of_ble_eq_true rfl, Nat.le_of_ble_eq_true rfl⟩ rfl 0 rfl rfl rfl hl.1 rfl (Nat.le_of_ble_eq_true rfl) ⟨Nat.le_of_ble_eq_true rfl, Nat.le_of_ble_eq_true rfl⟩ dL_law_695 rfl rfl (fun H locs G => ?_)
  generalize hv : (s_X4_errorCount z (xs (i + 1))) = v at G ⊢
  have hq := pq_errorCount I z (xs (i + 1))
  rw [hu, hv] at hq
  subst hq
  refine lv_icmp_eq (tgt := 717) hx hb dL_law_698 (by decide) (fun _ => ?_) (fun cc => absurd rfl cc)
  exact hk _ _ ls ⟨sc, u.2, r, e, n0, m0, p0, w0, s0, f0, sa, sr, se, sn, hs, f, g, pf, (Inv.mono I (Nat.le_add_right _ _)), G⟩ hl
set_option maxHeartbeats 4000000 in
set_option maxRecDepth 100000 in
/-- the law at digest -/
theorem law_c23 {p : Program} {l : Launch} {ev : Env} {s : State} {m : MethodId} {below : List Frame} {meth : Method} {c : Code} {b L : Nat} {xs : Nat → Int32} {D : va_G} {cI cS : ClassId} (C0 : lw_At p s m meth c b L xs) (hL : L ≤ 2048) {x sv tl er : Nat} {a : Nat → Nat} {y nw ad pa eA : Nat} (i B : Nat) (hi : i + 4 ≤ L) (hB : B ≤ 60000) (hk : ∀ (H : Heap) (locs : List Loc) (ls : Array Slot), LawSt D cI cS s x sv tl er a y nw ad pa eA (B + 100) H locs → lv_has ls 4 [(3, .int (nI i)), (2, .ref y), (1, .ref x), (0, .ref b)] → W p l ev room_1 s m #[Value.ref b] below meth c H locs 600000 7302250 (lw_Z below #[Value.ref b] s) (F0 m 717 ls [])) : ∀ (H : Heap) (locs : List Loc) (ls : Array Slot), LawSt D cI cS s x sv tl er a y nw ad pa eA B H locs → lv_has ls 4 [(3, .int (nI i)), (2, .ref y), (1, .ref x), (0, .ref b)] → W p l ev room_1 s m #[Value.ref b] below meth c H locs 600000 7302250 (lw_Z below #[Value.ref b] s) (F0 m 703 ls []) := by
  obtain ⟨hx, hb, hr, hml, hown, hts, hX, hbl, hlocks, hgv⟩ := C0
  have hts := fun w h => hts w (wsL_law_in w h)
  have hbA : ¬ (fun q : Nat => s.heap.size ≤ q) b := Nat.not_le.mpr hbl
  have S : CallFix p m c code 4 s #[Value.ref b] wsL_law RL := ⟨hx, hb, hml, hown, hts⟩
  intro H locs ls hs0 hl
  obtain ⟨sc, z, r, e, n0, m0, p0, w0, s0, f0, sa, sr, se, sn, hs, f, g, pf, I, G⟩ := hs0
  refine lv_aload_n hx hb dL_law_703 rfl (lv_at hl 2 rfl) ?_
  refine k_callF (n := 0) (As := []) (rest := []) (st1 := .long (s_X3_digest sc z r e) :: []) (ws1 := W3 cI cS x sv tl er a sc z r e n0 m0 p0 w0 s0 f0 sa sr se (W4 cI y nw ad pa eA sn hs f g pf z ([]))) ([]) ((tl, .inr (2, [.int n0, .int m0, .int p0, .int w0, .int s0, .int f0])) :: (sv, .inl (cS, 5, .inr (.inr (.inr (.inr (fun i => some (sa i 0))))))) :: svW cI sa sr se (W4 cI y nw ad pa eA sn hs f g pf z ([]))) S G (c_X3_digest l D cI cS x sv tl er sc z a r e (Inv.cn I)) gL_law_X3_digest rfl (by decide +kernel) ⟨⟨rfl, rfl⟩, Nat.le_of_ble_eq_true rfl, Nat.le_of_ble_eq_true rfl⟩ rfl 0 rfl rfl rfl hl.1 rfl (Nat.le_of_ble_eq_true rfl) ⟨Nat.le_of_ble_eq_true rfl, Nat.le_of_ble_eq_true rfl⟩ dL_law_704 rfl rfl (fun H locs G => ?_)
  generalize hu : (s_X3_digest sc z r e) = u at G ⊢
  refine lv_aload_n hx hb dL_law_707 rfl (lv_at hl 1 rfl) ?_
  refine k_callF (n := 0) (As := []) (rest := [.long u]) (st1 := .long ((s_X4_digest sn f z).1) :: [.long u]) (ws1 := W3 cI cS x sv tl er a sc z r e n0 m0 p0 w0 s0 f0 sa sr se (W4 cI y nw ad pa eA sn ((s_X4_digest sn f z).2) f g pf z ([]))) (W3 cI cS x sv tl er a sc z r e n0 m0 p0 w0 s0 f0 sa sr se ([])) ([]) S G (c_X4_digest l D cI cS y nw ad pa eA sn hs f g pf z (Inv.cn4 I)) gL_law_X4_digest rfl (by decide +kernel) ⟨⟨rfl, rfl⟩, Nat.le_of_ble_eq_true rfl, Nat.le_of_ble_eq_true rfl⟩ rfl 0 rfl rfl rfl hl.1 rfl (Nat.le_of_ble_eq_true rfl) ⟨Nat.le_of_ble_eq_true rfl, Nat.le_of_ble_eq_true rfl⟩ dL_law_708 rfl rfl (fun H locs G => ?_)
  generalize hv : (s_X4_digest sn f z) = v at G ⊢
  have hq := pq_digest I z
  rw [hu, hv] at hq
  have h1 := hq
  refine W.lcmp hx hb dL_law_711 ?_
  refine lv_lit (v := 0) (by rw [h1]; simp [lg_cmp]) ?_
  refine lv_if_eq (tgt := 717) hx hb dL_law_712 (by decide) (fun _ => ?_) (fun cc => absurd rfl cc)
  exact hk _ _ ls ⟨sc, z, r, e, n0, m0, p0, w0, s0, f0, sa, sr, se, sn, v.2, f, g, pf, (Inv.mono I (Nat.le_add_right _ _)), G⟩ hl
