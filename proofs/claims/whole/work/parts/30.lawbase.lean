/-! ===== the law's world: the class's cells, then the model's ===== -/
def W3 (cI cS : ClassId) (x sv tl er : Nat) (a : Nat → Nat) (sc : Int32) (z r : Nat → Int32) (e : Nat → Nat → Int32) (n0 m0 p0 w0 s0 f0 : Int32) (sa : Nat → Nat → Nat) (sr : Nat → Nat → Int32) (se : Nat → Nat → Nat → Int32) (X : va_W) : va_W :=
  (x, .inr (3, [.ref (a 0), .ref sv, .ref tl, .ref er, .int sc])) :: (er, .inl (cI, 3, .inl z)) :: stW cI a r e ((tl, .inr (2, [.int n0, .int m0, .int p0, .int w0, .int s0, .int f0])) :: (sv, .inl (cS, 5, .inr (.inr (.inr (.inr (fun i => some (sa i 0))))))) :: svW cI sa sr se X)
def W4 (cI : ClassId) (y nw ad pa eA : Nat) (sn : Int32) (hs : Int64) (f g pf z : Nat → Int32) (X : va_W) : va_W :=
  (y, .inr (4, [.ref nw, .ref ad, .ref pa, .int sn, .ref eA, .long hs])) :: (nw, .inl (cI, 39, .inl f)) :: (ad, .inl (cI, 39, .inl g)) :: (pa, .inl (cI, 195, .inl pf)) :: (eA, .inl (cI, 3, .inl z)) :: X
/-- a class's State and a model's row say the same -/
def Rel (r : Nat → Int32) (e : Nat → Nat → Int32) (f : Nat → Int32) : Prop := (∀ j, j ≤ 14 → r j = f j) ∧ ∀ w i, w < 3 → i < 6 → e w i = f (15 + 4 * i + w)
/-- a row's numbers in their ranges; the missed ones at most B -/
def Good (B : Nat) (f : Nat → Int32) : Prop := (0 ≤ (f 0).toInt ∧ (f 0).toInt < 1440) ∧ (1 ≤ (f 5).toInt ∧ (f 5).toInt ≤ 12) ∧ (1 ≤ (f 10).toInt ∧ (f 10).toInt ≤ 4) ∧ (0 ≤ (f 6).toInt ∧ (f 6).toInt ≤ 2000) ∧ (0 ≤ (f 11).toInt ∧ (f 11).toInt ≤ 2000) ∧ (0 ≤ (f 8).toInt ∧ (f 8).toInt ≤ B) ∧ (0 ≤ (f 13).toInt ∧ (f 13).toInt ≤ B) ∧ (0 ≤ (f 14).toInt ∧ (f 14).toInt ≤ 6)
def Inv (B : Nat) (sc : Int32) (r : Nat → Int32) (e : Nat → Nat → Int32) (sr : Nat → Nat → Int32) (se : Nat → Nat → Nat → Int32) (sn : Int32) (f pf : Nat → Int32) : Prop :=
  sn = sc ∧ scOk sc ∧ Rel r e f ∧ Good B f ∧ ∀ i, i < sc.toNatClampNeg → Rel (sr i) (se i) (fun j => pf (39 * i + j)) ∧ Good B (fun j => pf (39 * i + j))
theorem Good.mono {B C : Nat} {f : Nat → Int32} (h : Good B f) (hc : B ≤ C) : Good C f := by
  obtain ⟨h1, h2, h3, h4, h5, h6, h7, h8⟩ := h
  exact ⟨h1, h2, h3, h4, h5, ⟨h6.1, by omega⟩, ⟨h7.1, by omega⟩, h8⟩
theorem Inv.mono {B C : Nat} {sc : Int32} {r : Nat → Int32} {e : Nat → Nat → Int32} {sr : Nat → Nat → Int32} {se : Nat → Nat → Nat → Int32} {sn : Int32} {f pf : Nat → Int32} (h : Inv B sc r e sr se sn f pf) (hc : B ≤ C) : Inv C sc r e sr se sn f pf := by
  obtain ⟨h1, h2, h3, h4, h5⟩ := h
  exact ⟨h1, h2, h3, h4.mono hc, fun i hi => ⟨(h5 i hi).1, (h5 i hi).2.mono hc⟩⟩
/-! two worlds side by side -/
theorem ap_l {α : Type} {A B : List α} {k : Nat} {q : α} (h : A[k]? = some q) : (A ++ B)[k]? = some q := by
  rw [List.getElem?_append_left (List.getElem?_eq_some_iff.mp h).1]; exact h
theorem ap_r {α : Type} {A B : List α} {k : Nat} {q : α} (h : B[k]? = some q) : (A ++ B)[A.length + k]? = some q := by
  rw [List.getElem?_append_right (by omega), show A.length + k - A.length = k by omega]; exact h
theorem va_P.left {D : va_G} {cl : List vw_C} {A B : va_W} {H : Heap} (h : va_P D cl (A ++ B) H) : va_P D cl A H := fun k q hk => h k q (ap_l hk)
theorem va_P.right {D : va_G} {cl : List vw_C} {A B : va_W} {H : Heap} (h : va_P D cl (A ++ B) H) : va_P D cl B H := fun k q hk => h _ q (ap_r hk)
theorem va_D.left {P : Nat → Prop} {A B : va_W} (h : va_D P (A ++ B)) : va_D P A := ⟨fun i j x y hi hj e => h.1 i j x y (ap_l hi) (ap_l hj) e, fun k q hk => h.2 k q (ap_l hk)⟩
theorem va_D.right {P : Nat → Prop} {A B : va_W} (h : va_D P (A ++ B)) : va_D P B := ⟨fun i j x y hi hj e => by have := h.1 _ _ x y (ap_r hi) (ap_r hj) e; omega, fun k q hk => h.2 _ q (ap_r hk)⟩
theorem va_D.cross {P : Nat → Prop} {A B : va_W} (h : va_D P (A ++ B)) {i j : Nat} {x y : Nat × va_E} (hi : A[i]? = some x) (hj : B[j]? = some y) : x.1 ≠ y.1 := fun e => by
  have h1 := h.1 _ _ x y (ap_l hi) (ap_r hj) e
  have h2 := (List.getElem?_eq_some_iff.mp hi).1
  omega
section KF
variable {p : Program} {l : Launch} {e : Env} {R : Room} {s : State} {m : MethodId} {args : Array Value} {below : List Frame} {meth : Method} {c : Code} {H : Heap} {locs : List Loc} {cells slots : Nat} {Q : State → Prop}
variable {cc : ByteArray} {pc nL : Nat} {ls : Array Slot} {rest : List Value} {D : va_G} {A : Nat → Prop} {a : Nat} {tys : List (ClassId × FieldType)} {ws ws1 : va_W} {H0 : Heap} {Ts : List Cond} {own : String}
/-- a call whose world stands between two others -/
theorem k_callF {y : MethodName} {wc wc' : List Cond} {rm : Room} {W0 W1 : va_W} {v : Option Value} {bytes : ByteArray} {maxL n index b ci N : Nat} {ret : Option FieldType} {C : String} {T : u_T} {fs : List Value} {As st0 st1 : List Value} (P X : va_W)
    (S : CallFix p m c cc nL s args Ts own) (G : Gd D tys A H0 s ws H locs) (hM : Ct l y wc rm D tys (.ref b :: As) W0 v W1) (hg : GoodIn Ts (wsV own index C y wc)) (hwc : wc = Cond.code y bytes maxL ret :: wc') (hd : y.cls = C ∧ y.cls ≠ "java/lang/invoke/MethodHandle" ∧ y.cls ≠ "java/lang/invoke/VarHandle" ∧ (parseMethodDescriptor y.desc).map (fun d => d.parameters.length) = some n) (hR : (rm.cells = 0 ∧ rm.slots = 0) ∧ rm.frames + 1 ≤ R.frames ∧ 8 + (maxL + 11) + rm.locals ≤ R.locals)
    (hws : ws = P ++ (W0 ++ X)) (q0 : Nat) (he : W0[q0]? = some (b, .inr (ci, fs))) (hc : vwCl[ci]? = some (C, T, N)) (hlen : As.length = n) (hls : ls.size = nL) (hst0 : st0 = As.reverse ++ .ref b :: rest) (hrest : (rest.map fun v => v.category).sum ≤ 8) (hz : cells ≤ R.cells ∧ slots ≤ R.slots) (hdg : decode cc pc = .ok (.invokevirtual index, 3))
    (hst : v.toList ++ rest = st1) (hw : P ++ (W1 ++ X) = ws1)
    (kk : ∀ (H1 : Heap) (locs1 : List Loc), Gd D tys A H0 s ws1 H1 locs1 → W p l e R s m args below meth c H1 locs1 cells slots Q (F0 m (pc + 3) ls st1)) : W p l e R s m args below meth c H locs cells slots Q (F0 m pc ls st0) := by
  subst hst
  subst hw
  subst hws
  have hPW := G.2.1.right.left
  have hDW := G.2.2.1.right.left
  have hFc : ∀ q, va_A W0 H.size q → A q := by
    intro q h
    rcases h with ⟨k, e, h⟩ | h
    · exact hDW.2 k (q, e) h
    · exact G.2.2.2.2 q (Nat.le_trans G.2.2.2.1.1 h)
  have hS := G.2.2.2.1
  have hr := va_runV (e := e) (below := below) (meth := meth) (locs := locs) (cells := cells) (slots := slots) (g := F0 m pc ls st0) (As := As) (rest := rest) S (hM H.size) (cwV n S.2.2.2.2 hg hwc hR.1.1 hR.1.2 hd hR.2) ⟨kPre_blind, va_recv G.1 hPW hc he, fun U hU hW => ⟨rfl, by rw [hU], by rw [hU]; exact hPW, va_K.moved hW.alike G.1, hDW.weaken (fun _ _ _ _ => trivial)⟩⟩ rfl hlen hls hst0 (lv_room hrest) hdg hz
  intro T hT X1
  obtain ⟨v', st₀, t, T', L, h0, X', hL, e1, e2, ⟨hv, hP1, -, hD1, hz1, hk⟩, st⟩ := hr T hT X1
  cases hv
  rw [h0] at hz1 hk
  rw [← e1] at hP1 hz1 hk
  have outP : ∀ (k : Nat) (q : Nat × va_E), P[k]? = some q → q.1 < H.size ∧ ¬ va_A W0 H.size q.1 := by
    intro k q hq
    have hl := (G.2.1.left k q hq).lt
    refine ⟨hl, fun z => ?_⟩
    rcases z with ⟨k2, e, z⟩ | z
    · exact G.2.2.1.cross hq (ap_l z) rfl
    · omega
  have outX : ∀ (k : Nat) (q : Nat × va_E), X[k]? = some q → q.1 < H.size ∧ ¬ va_A W0 H.size q.1 := by
    intro k q hq
    have hl := (G.2.1.right.right k q hq).lt
    refine ⟨hl, fun z => ?_⟩
    rcases z with ⟨k2, e, z⟩ | z
    · exact G.2.2.1.right.cross z hq rfl
    · omega
  have G1 : Gd D tys A H0 s (P ++ (W1 ++ X)) T'.heap (locs ++ L) := by
    refine ⟨G.1, ?_, ?_, ⟨Nat.le_trans hS.1 hz1, fun q h1 h2 => ?_, fun q hq => ?_⟩, G.2.2.2.2⟩
    · refine va_P.app (fun k q hq => (G.2.1.left k q hq).kept (hk q.1 (outP k q hq).1 (outP k q hq).2)) (va_P.app hP1 (fun k q hq => (G.2.1.right.right k q hq).kept (hk q.1 (outX k q hq).1 (outX k q hq).2)))
    · refine va_D.app G.2.2.1.left (va_D.app (hD1.weaken (fun _ _ _ h => hFc _ h)) G.2.2.1.right.right (fun i j x y hx hy hxy => ?_)) (fun i j x y hx hy hxy => ?_)
      · exact (outX j y hy).2 (by rw [← hxy]; exact hD1.2 i x hx)
      · rcases List.mem_append.mp (List.mem_of_getElem? hy) with h | h
        · obtain ⟨j2, hj2⟩ := List.getElem?_of_mem h
          exact (outP i x hx).2 (by rw [hxy]; exact hD1.2 j2 y hj2)
        · obtain ⟨j2, hj2⟩ := List.getElem?_of_mem h
          exact G.2.2.1.cross hx (ap_r hj2) hxy
    · rw [hk q (Nat.lt_of_lt_of_le h1 hS.1) (fun z => h2 (hFc q z))]
      exact hS.2.1 q h1 h2
    · rcases List.mem_append.mp hq with h | h
      · exact hS.2.2 q h
      · exact hFc _ (hL q h)
  obtain ⟨t2, a1, b1⟩ := kk T'.heap (locs ++ L) G1 T' rfl X'
  exact ⟨t2, st t2 a1, b1⟩
end KF
