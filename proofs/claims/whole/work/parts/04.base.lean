/-! words for the state -/
abbrev tyL (cI cS : ClassId) : List (ClassId × FieldType) := [(cI, .int), (cS, .object "StrikingWork$State")]
abbrev irem (x y : Int32) : Int32 := x - x / y * y
def e3 (f g h : Nat → Int32) : Nat → Nat → Int32 := fun w => if w = 0 then f else if w = 1 then g else h
/-- a State of the class: its seven cells at a 0 .. a 6, its numbers r 0 .. r 14, its rows e 0, e 1, e 2 -/
def stW (cI : ClassId) (a : Nat → Nat) (r : Nat → Int32) (e : Nat → Nat → Int32) (X : va_W) : va_W :=
  (a 0, .inr (0, [.ref (a 1), .ref (a 2), .ref (a 3), .int (r 0), .int (r 1), .int (r 2), .int (r 3)])) ::
  (a 1, .inr (2, [.int 0, .int (r 4), .int (r 5), .int (r 6), .int (r 7), .int (r 8)])) ::
  (a 2, .inr (2, [.int 1, .int (r 9), .int (r 10), .int (r 11), .int (r 12), .int (r 13)])) ::
  (a 3, .inr (1, [.ref (a 4), .ref (a 5), .ref (a 6), .int (r 14)])) ::
  (a 4, .inl (cI, 6, .inl (e 0))) :: (a 5, .inl (cI, 6, .inl (e 1))) :: (a 6, .inl (cI, 6, .inl (e 2))) :: X
/-- the five saved States -/
def svW (cI : ClassId) (sa : Nat → Nat → Nat) (sr : Nat → Nat → Int32) (se : Nat → Nat → Nat → Int32) (X : va_W) : va_W :=
  stW cI (sa 0) (sr 0) (se 0) (stW cI (sa 1) (sr 1) (se 1) (stW cI (sa 2) (sr 2) (se 2) (stW cI (sa 3) (sr 3) (se 3) (stW cI (sa 4) (sr 4) (se 4) X))))
/-! ===== my own layer: a world held in one hypothesis, contracts that name the answer and the world behind ===== -/
/-- a method's standing world: the tables, the cells, apart, nothing else changed since H0 -/
def Gd (D : va_G) (tys : List (ClassId × FieldType)) (A : Nat → Prop) (H0 : Heap) (s : State) (ws : va_W) (H : Heap) (locs : List Loc) : Prop :=
  va_K D vwCl tys s ∧ va_P D vwCl ws H ∧ va_D A ws ∧ va_S A H0 H locs ∧ ∀ q, H0.size ≤ q → A q
/-- cells put at places -/
def puts (ws : va_W) : List Nat → va_W → va_W
  | i :: is, e :: es => puts (ws.set i e) is es
  | _, _ => ws
theorem puts_key : ∀ (is : List Nat) (W1 ws : va_W) (k : Nat) (q : Nat × va_E), is.length = W1.length → (puts ws is W1)[k]? = some q → (∃ j : Nat, is[j]? = some k ∧ W1[j]? = some q) ∨ (k ∉ is ∧ ws[k]? = some q)
  | [], [], _, _, _, _, h => Or.inr ⟨List.not_mem_nil, h⟩
  | i :: is, e :: W1, ws, k, q, hl, h => by
    rcases puts_key is W1 (ws.set i e) k q (by simpa using hl) h with ⟨j, h1, h2⟩ | ⟨h1, h2⟩
    · exact Or.inl ⟨j + 1, by simpa using h1, by simpa using h2⟩
    · by_cases hk : k = i
      · subst hk
        have hlt : k < ws.length := by
          have := (List.getElem?_eq_some_iff.mp h2).1
          simpa using this
        rw [List.getElem?_set_self hlt] at h2
        cases h2
        exact Or.inl ⟨0, rfl, rfl⟩
      · rw [List.getElem?_set_ne (Ne.symm hk)] at h2
        exact Or.inr ⟨fun hm => by
          rcases List.mem_cons.mp hm with h | h
          · exact hk h
          · exact h1 h, h2⟩
theorem map_get {is : List Nat} {ws W0 : va_W} (hC : is.map (fun i => ws[i]?) = W0.map some) {j : Nat} {q : Nat × va_E} (h : W0[j]? = some q) : ∃ i : Nat, is[j]? = some i ∧ ws[i]? = some q := by
  have h1 : (is.map (fun i => ws[i]?))[j]? = some (some q) := by rw [hC, List.getElem?_map, h]; rfl
  rw [List.getElem?_map] at h1
  cases hi : is[j]? with
  | none => rw [hi] at h1; cases h1
  | some i => rw [hi] at h1; exact ⟨i, rfl, Option.some.inj h1⟩
theorem puts_old {A : Nat → Prop} {is : List Nat} {ws W0 W1 : va_W} (hC : is.map (fun i => ws[i]?) = W0.map some) (hf : W1.map Prod.fst = W0.map Prod.fst) {k : Nat} {q : Nat × va_E} (h : (puts ws is W1)[k]? = some q) : ∃ q0, ws[k]? = some q0 ∧ q0.1 = q.1 := by
  have hl : is.length = W1.length := by
    have e1 := congrArg List.length hC
    have e2 := congrArg List.length hf
    simp at e1 e2
    omega
  rcases puts_key is W1 ws k q hl h with ⟨j, h1, h2⟩ | ⟨-, h2⟩
  · have hlt : j < W0.length := by
      have e1 := (List.getElem?_eq_some_iff.mp h2).1
      have e2 := congrArg List.length hf
      simp at e2
      omega
    obtain ⟨q0, hq0⟩ : ∃ q0, W0[j]? = some q0 := ⟨_, List.getElem?_eq_getElem hlt⟩
    obtain ⟨i, g1, g2⟩ := map_get hC hq0
    have hik : i = k := Option.some.inj (g1.symm.trans h1)
    subst hik
    refine ⟨q0, g2, ?_⟩
    have e : (W1.map Prod.fst)[j]? = (W0.map Prod.fst)[j]? := by rw [hf]
    rw [List.getElem?_map, List.getElem?_map, h2, hq0] at e
    exact (Option.some.inj e).symm
  · exact ⟨q, h2, rfl⟩
theorem puts_D {A : Nat → Prop} {is : List Nat} {ws W0 W1 : va_W} (hD : va_D A ws) (hC : is.map (fun i => ws[i]?) = W0.map some) (hf : W1.map Prod.fst = W0.map Prod.fst) : va_D A (puts ws is W1) := by
  refine ⟨fun i j x y hx hy hxy => ?_, fun k q hk => ?_⟩
  · obtain ⟨x0, g1, g2⟩ := puts_old (A := A) hC hf hx
    obtain ⟨y0, g3, g4⟩ := puts_old (A := A) hC hf hy
    exact hD.1 i j x0 y0 g1 g3 (g2.trans (hxy.trans g4.symm))
  · obtain ⟨q0, g1, g2⟩ := puts_old (A := A) hC hf hk
    rw [← g2]
    exact hD.2 k q0 g1
theorem puts_P {A : Nat → Prop} {D : va_G} {cl : List vw_C} {is : List Nat} {ws W0 W1 : va_W} {H H1 : Heap} (hP : va_P D cl ws H) (hD : va_D A ws) (hC : is.map (fun i => ws[i]?) = W0.map some) (hf : W1.map Prod.fst = W0.map Prod.fst)
    (hk : ∀ q : Nat, q < H.size → ¬ va_A W0 H.size q → H1[q]? = H[q]?) (hP1 : va_P D cl W1 H1) : va_P D cl (puts ws is W1) H1 := by
  have hl : is.length = W1.length := by
    have e1 := congrArg List.length hC
    have e2 := congrArg List.length hf
    simp at e1 e2
    omega
  intro k q h
  rcases puts_key is W1 ws k q hl h with ⟨j, h1, h2⟩ | ⟨h1, h2⟩
  · exact hP1 j q h2
  · refine (hP k q h2).kept (hk q.1 (hP k q h2).lt (fun z => ?_))
    rcases z with ⟨k2, e, z⟩ | z
    · obtain ⟨i, g1, g2⟩ := map_get hC z
      have hki := hD.1 k i q (q.1, e) h2 g2 rfl
      subst hki
      exact h1 (List.mem_of_getElem? g1)
    · have := (hP k q h2).lt
      omega
/-- a contract's start, and its end: the world by its name -/
def kPre (D : va_G) (tys : List (ClassId × FieldType)) (W0 : va_W) (sz : Nat) : State → Prop := fun U => U.heap.size = sz ∧ va_P D vwCl W0 U.heap ∧ va_K D vwCl tys U ∧ va_D (fun _ => True) W0
def kPost (D : va_G) (tys : List (ClassId × FieldType)) (A : Nat → Prop) (W1 : va_W) (v : Option Value) (st : State) (o : Outcome) (t : State) : Prop := o = .returned v ∧ va_P D vwCl W1 t.heap ∧ va_K D vwCl tys t ∧ va_D A W1 ∧ va_F A st t
/-- THE CONTRACT: from any heap with the world W0, method y with arguments av returns v, and the heap holds W1 -/
def Ct (l : Launch) (y : MethodName) (wc : List Cond) (rm : Room) (D : va_G) (tys : List (ClassId × FieldType)) (av : List Value) (W0 : va_W) (v : Option Value) (W1 : va_W) : Prop :=
  ∀ sz, Met l y wc rm (va_Pc av (kPre D tys W0 sz)) (fun _ st o t => kPost D tys (va_A W0 sz) W1 v st o t) 0 0 (va_A W0 sz)
def QE (below : List Frame) (args : Array Value) (s : State) (D : va_G) (tys : List (ClassId × FieldType)) (A : Nat → Prop) (v : Option Value) (W1 : va_W) : State → Prop :=
  MQ below (fun _ st o t => kPost D tys A W1 v st o t) args s 0 0 A
theorem kPre_blind {D : va_G} {tys : List (ClassId × FieldType)} {W0 : va_W} {sz : Nat} {av : List Value} : FrameBlind (va_Pc av (kPre D tys W0 sz)) := by
  intro a U g mk q
  obtain ⟨q0, q1, qP, qK, qD⟩ := q
  exact ⟨q0, q1, qP, va_K.moved (u := U) (U := U.calling g mk a) (Vm.Alike.refl U.vm) qK, qD⟩
/-- a method's body, from its entry -/
theorem Ct.of {l : Launch} {y : MethodName} {wc wc' : List Cond} {rm : Room} {D : va_G} {tys : List (ClassId × FieldType)} {av : List Value} {W0 W1 : va_W} {v : Option Value} {cc : ByteArray} {maxL : Nat} {ret : Option FieldType}
    (hy : plainName y.cls = true) (hw : wc = Cond.code y cc maxL ret :: wc') (hav : (lg_sl av).length ≤ maxL)
    (body : ∀ (p : Program) (e : Env) (s : State) (m : MethodId) (args : Array Value) (below : List Frame) (meth : Method) (c : Code) (A : Nat → Prop) (ls : Array Slot), CallFix p m c cc maxL s args wc y.cls → meth.sig.returnType = ret → meth.locks = false → Gd D tys A s.heap s W0 s.heap [] → lv_has ls maxL (lv_args 0 av) →
      W p l e rm s m args below meth c s.heap [] 0 0 (QE below args s D tys A v W1) (F0 m 0 ls [])) : Ct l y wc rm D tys av W0 v W1 := by
  intro sz
  refine Met.ofW (cc := cc) (maxL := maxL) (ret := ret) hy hw ?_
  intro p e s m args below meth c s₁ B hml hv
  obtain ⟨rfl, hsz, hP, hK, hD0⟩ := hv
  have hts := atoms_spec (ws := wc) B.pre
  have hown : s.vm.findClass y.cls = some m.cls := findClass_of_methodNamed B.named
  subst hsz
  have hD := hD0.self (sz := s.heap.size)
  rw [lg_entry_eq]
  exact body p e s m av.toArray below meth c (va_A W0 s.heap.size) _ ⟨B.exec, B.bytes, hml, hown, hts⟩ B.returns B.notSynchronized ⟨hK, hP, hD, va_S.rf, fun q h => Or.inr h⟩ (lv_entry av hav)
section KB
variable {p : Program} {l : Launch} {e : Env} {R : Room} {s : State} {m : MethodId} {args : Array Value} {below : List Frame} {meth : Method} {c : Code} {H : Heap} {locs : List Loc} {cells slots : Nat} {Q : State → Prop}
variable {cc : ByteArray} {pc nL : Nat} {ls : Array Slot} {rest : List Value} {D : va_G} {A : Nat → Prop} {a : Nat} {tys : List (ClassId × FieldType)} {ws ws1 : va_W} {H0 : Heap} {Ts : List Cond} {own : String}
theorem Gd.eq (G : Gd D tys A H0 s ws H locs) (h : ws = ws1) : Gd D tys A H0 s ws1 H locs := h ▸ G
theorem k_get (S : CallFix p m c cc nL s args Ts own) (G : Gd D tys A H0 s ws H locs) (q0 : Nat) {ci : Nat} {fs : List Value} (he : ws[q0]? = some (a, .inr (ci, fs))) {C : String} {T : u_T} {N : Nat} (hc : vwCl[ci]? = some (C, T, N)) (hin : ∀ w ∈ u_ws C T N, w ∈ Ts) (k : Nat) (hk : k < N) {index : Nat} (hlink : (Cond.fieldLink own index (T k).1 (T k).2.1 (T k).2.2.1).before args s = true) {v : Value} (hv : fs[k]? = some v) (hdg : decode cc pc = .ok (.getfield index, 3))
    (kk : W p l e R s m args below meth c H locs cells slots Q (F0 m (pc + 3) ls (v :: rest))) : W p l e R s m args below meth c H locs cells slots Q (F0 m pc ls (.ref a :: rest)) :=
  va_get S.1 S.2.1 S.2.2.2.2 hin S.2.2.2.1 G.1 G.2.1 q0 he hc k hk hlink (fun _ h => h) hv hdg kk
theorem k_put (S : CallFix p m c cc nL s args Ts own) (G : Gd D tys A H0 s ws H locs) (q0 : Nat) {ci : Nat} {fs : List Value} (he : ws[q0]? = some (a, .inr (ci, fs))) {C : String} {T : u_T} {N : Nat} (hc : vwCl[ci]? = some (C, T, N)) (hin : ∀ w ∈ u_ws C T N, w ∈ Ts) (ty0 : Nat → FieldType) (hty : ∀ k, k < N → parseFieldDescriptor (T k).2.2.1 = some (ty0 k)) (hnm : ∀ a, a < N → ∀ b, b < N → a ≠ b → (T a).2.1 ≠ (T b).2.1) (k : Nat) (hk : k < N) {index : Nat} (hlink : (Cond.fieldLink own index (T k).1 (T k).2.1 (T k).2.2.1).before args s = true) (hfin : (T k).2.2.2 = false) {v : Value} (hn : narrow (ty0 k) v = v) (hfit : fits (ty0 k) v = true) (hl : k < fs.length) (hdg : decode cc pc = .ok (.putfield index, 3))
    (hw : ws.set q0 (a, .inr (ci, fs.set k v)) = ws1) (kk : ∀ (H1 : Heap) (locs1 : List Loc), Gd D tys A H0 s ws1 H1 locs1 → W p l e R s m args below meth c H1 locs1 cells slots Q (F0 m (pc + 3) ls rest)) : W p l e R s m args below meth c H locs cells slots Q (F0 m pc ls (v :: .ref a :: rest)) := by
  subst hw
  exact va_put S.1 S.2.1 S.2.2.2.2 hin ty0 hty hnm S.2.2.2.1 G.1 G.2.1 G.2.2.1 G.2.2.2.1 q0 he hc k hk hlink (fun _ h => h) hfin (hty k hk) hn hfit hl hdg (fun H1 locs1 hP hD hS => kk H1 locs1 ⟨G.1, hP, hD, hS, G.2.2.2.2⟩)
theorem k_iald (S : CallFix p m c cc nL s args Ts own) (G : Gd D tys A H0 s ws H locs) (q0 t0 : Nat) {cA : ClassId} {n : Nat} {f : Nat → Int32} (ha : ws[q0]? = some (a, .inl (cA, n, .inl f))) (ht : tys[t0]? = some (cA, .int)) {i : Int32} (hin : vp_in i n) {x : Int32} (hx : f i.toNatClampNeg = x) (hdg : decode cc pc = .ok (.iaload, 1))
    (kk : W p l e R s m args below meth c H locs cells slots Q (F0 m (pc + 1) ls (.int x :: rest))) : W p l e R s m args below meth c H locs cells slots Q (F0 m pc ls (.int i :: .ref a :: rest)) := by
  subst hx
  exact va_iald S.1 S.2.1 G.1 G.2.1 q0 t0 ha ht hin hdg kk
theorem k_iast (S : CallFix p m c cc nL s args Ts own) (G : Gd D tys A H0 s ws H locs) (q0 t0 : Nat) {cA : ClassId} {n : Nat} {f : Nat → Int32} (ha : ws[q0]? = some (a, .inl (cA, n, .inl f))) (ht : tys[t0]? = some (cA, .int)) {i x : Int32} (hin : vp_in i n) (hdg : decode cc pc = .ok (.iastore, 1))
    (hw : ws.set q0 (a, .inl (cA, n, .inl (upd f i.toNatClampNeg x))) = ws1) (kk : ∀ (H1 : Heap) (locs1 : List Loc), Gd D tys A H0 s ws1 H1 locs1 → W p l e R s m args below meth c H1 locs1 cells slots Q (F0 m (pc + 1) ls rest)) : W p l e R s m args below meth c H locs cells slots Q (F0 m pc ls (.int x :: .int i :: .ref a :: rest)) := by
  subst hw
  exact va_iast S.1 S.2.1 G.1 G.2.1 G.2.2.1 G.2.2.2.1 q0 t0 ha ht hin hdg (fun H1 locs1 hP hD hS => kk H1 locs1 ⟨G.1, hP, hD, hS, G.2.2.2.2⟩)
theorem k_aald (S : CallFix p m c cc nL s args Ts own) (G : Gd D tys A H0 s ws H locs) (q0 t0 : Nat) {cA : ClassId} {C : String} {n : Nat} {f : Nat → Option Nat} (ha : ws[q0]? = some (a, .inl (cA, n, .inr (.inr (.inr (.inr f)))))) (ht : tys[t0]? = some (cA, .object C)) {i : Int32} (hin : vp_in i n) {x : Nat} (hx : f i.toNatClampNeg = some x) (hdg : decode cc pc = .ok (.aaload, 1))
    (kk : W p l e R s m args below meth c H locs cells slots Q (F0 m (pc + 1) ls (.ref x :: rest))) : W p l e R s m args below meth c H locs cells slots Q (F0 m pc ls (.int i :: .ref a :: rest)) := by
  refine va_aldq S.1 S.2.1 G.1 G.2.1 q0 t0 ha ht hin hdg ?_
  rw [hx]
  exact kk
theorem k_aast (S : CallFix p m c cc nL s args Ts own) (G : Gd D tys A H0 s ws H locs) (q0 t0 qk ci : Nat) {cA : ClassId} {r : vw_C} {n v : Nat} {vs : List Value} {f : Nat → Option Nat} (ha : ws[q0]? = some (a, .inl (cA, n, .inr (.inr (.inr (.inr f)))))) (ht : tys[t0]? = some (cA, .object r.1)) (hv : ws[qk]? = some (v, .inr (ci, vs))) (hc : vwCl[ci]? = some r) {i : Int32} (hin : vp_in i n) (hdg : decode cc pc = .ok (.aastore, 1))
    (hw : ws.set q0 (a, .inl (cA, n, .inr (.inr (.inr (.inr (va_up f i.toNatClampNeg (some v))))))) = ws1) (kk : ∀ (H1 : Heap) (locs1 : List Loc), Gd D tys A H0 s ws1 H1 locs1 → W p l e R s m args below meth c H1 locs1 cells slots Q (F0 m (pc + 1) ls rest)) : W p l e R s m args below meth c H locs cells slots Q (F0 m pc ls (.ref v :: .int i :: .ref a :: rest)) := by
  subst hw
  exact va_astq S.1 S.2.1 G.1 G.2.1 G.2.2.1 G.2.2.2.1 q0 t0 qk ci ha ht hv hc hin hdg (fun H1 locs1 hP hD hS => kk H1 locs1 ⟨G.1, hP, hD, hS, G.2.2.2.2⟩)
/-- another function for an array's contents, alike below its length -/
theorem Gd.arr (G : Gd D tys A H0 s ws H locs) (q0 : Nat) {cA : ClassId} {n : Nat} {f : Nat → Int32} (g : Nat → Int32) (ha : ws[q0]? = some (a, .inl (cA, n, .inl f))) (hfg : ∀ i, i < n → f i = g i) (hw : ws.set q0 (a, .inl (cA, n, .inl g)) = ws1) : Gd D tys A H0 s ws1 H locs := by
  subst hw
  refine ⟨G.1, ?_, G.2.2.1.set ha, G.2.2.2.1, G.2.2.2.2⟩
  refine G.2.1.set G.2.2.1 ha ?_ (fun _ _ => rfl)
  have h0 : H[a]? = some (vp_cell cA (n, .inl f)) := G.2.1 q0 _ ha
  show H[a]? = some (vp_cell cA (n, .inl g))
  rw [h0, vp_cell_i, vp_cell_i]
  congr 1
  unfold arrV
  congr 2
  funext j
  show Value.int (f j.val) = Value.int (g j.val)
  rw [hfg j.val j.isLt]
/-- the same world, its cells in another order or fewer -/
theorem Gd.sub (G : Gd D tys A H0 s ws H locs) (is : List Nat) (hn : va_nd is = true) (hs : is.map (fun i => ws[i]?) = ws1.map some) : Gd D tys A H0 s ws1 H locs := by
  refine ⟨G.1, fun k q hk => ?_, G.2.2.1.sub is hn hs, G.2.2.2.1, G.2.2.2.2⟩
  obtain ⟨i, -, h2⟩ := map_get hs hk
  exact G.2.1 i q h2
/-- behind a call -/
theorem k_call {st0 st1 : List Value} {W0 W1 : va_W} {v : Option Value} (G : Gd D tys A H0 s ws H locs) (is : List Nat) (hC : is.map (fun i => ws[i]?) = W0.map some) (hf : W1.map Prod.fst = W0.map Prod.fst)
    (hr : va_Run p l e R s m args below meth c H locs cells slots 0 0 (F0 m pc ls st0) rest (fun st o t => kPost D tys (va_A W0 H.size) W1 v st o t) (va_A W0 H.size)) (hst : v.toList ++ rest = st1) (hw : puts ws is W1 = ws1)
    (kk : ∀ (H1 : Heap) (locs1 : List Loc), Gd D tys A H0 s ws1 H1 locs1 → W p l e R s m args below meth c H1 locs1 cells slots Q (F0 m (pc + 3) ls st1)) : W p l e R s m args below meth c H locs cells slots Q (F0 m pc ls st0) := by
  subst hst
  subst hw
  have hFc : ∀ q, va_A W0 H.size q → A q := va_free G.2.2.1 G.2.2.2.1 G.2.2.2.2 is hC
  have hS := G.2.2.2.1
  intro T hT X
  obtain ⟨v', st₀, t, T', L, h0, X', hL, e1, e2, ⟨hv, hP1, -, -, hz, hk⟩, st⟩ := hr T hT X
  cases hv
  rw [h0] at hz hk
  rw [← e1] at hP1 hz hk
  have G1 : Gd D tys A H0 s (puts ws is W1) T'.heap (locs ++ L) := by
    refine ⟨G.1, puts_P G.2.1 G.2.2.1 hC hf hk hP1, puts_D G.2.2.1 hC hf, ⟨Nat.le_trans hS.1 hz, fun q h1 h2 => ?_, fun q hq => ?_⟩, G.2.2.2.2⟩
    · rw [hk q (Nat.lt_of_lt_of_le h1 hS.1) (fun z => h2 (hFc q z))]
      exact hS.2.1 q h1 h2
    · rcases List.mem_append.mp hq with h | h
      · exact hS.2.2 q h
      · exact hFc _ (hL q h)
  obtain ⟨t2, a1, b1⟩ := kk T'.heap (locs ++ L) G1 T' rfl X'
  exact ⟨t2, st t2 a1, b1⟩
theorem kPre_of (G : Gd D tys A H0 s ws H locs) {W0 : va_W} {is : List Nat} (hn : va_nd is = true) (hC : is.map (fun i => ws[i]?) = W0.map some) {av : List Value} (U : State) (hU : U.heap = H) (hW : s.WarmedH U.vm) : va_Pc av (kPre D tys W0 H.size) av.toArray U := by
  refine ⟨rfl, by rw [hU], fun k q hk => ?_, va_K.moved hW.alike G.1, (G.2.2.1.sub is hn hC).weaken (fun _ _ _ _ => trivial)⟩
  obtain ⟨i, -, h2⟩ := map_get hC hk
  rw [hU]
  exact G.2.1 i q h2
theorem k_callV {y : MethodName} {wc wc' : List Cond} {rm : Room} {W0 W1 : va_W} {v : Option Value} {bytes : ByteArray} {maxL n index b ci N : Nat} {ret : Option FieldType} {C : String} {T : u_T} {fs : List Value} {As st0 st1 : List Value}
    (S : CallFix p m c cc nL s args Ts own) (G : Gd D tys A H0 s ws H locs) (hM : Ct l y wc rm D tys (.ref b :: As) W0 v W1) (hg : GoodIn Ts (wsV own index C y wc)) (hwc : wc = Cond.code y bytes maxL ret :: wc') (hd : y.cls = C ∧ y.cls ≠ "java/lang/invoke/MethodHandle" ∧ y.cls ≠ "java/lang/invoke/VarHandle" ∧ (parseMethodDescriptor y.desc).map (fun d => d.parameters.length) = some n) (hR : (rm.cells = 0 ∧ rm.slots = 0) ∧ rm.frames + 1 ≤ R.frames ∧ 8 + (maxL + 11) + rm.locals ≤ R.locals)
    (is : List Nat) (hn : va_nd is = true) (hC : is.map (fun i => ws[i]?) = W0.map some) (L : List Nat) (hf1 : W1.map Prod.fst = L) (hf0 : W0.map Prod.fst = L) (q0 : Nat) (he : ws[q0]? = some (b, .inr (ci, fs))) (hc : vwCl[ci]? = some (C, T, N)) (hlen : As.length = n) (hls : ls.size = nL) (hst0 : st0 = As.reverse ++ .ref b :: rest) (hrest : (rest.map fun v => v.category).sum ≤ 8) (hz : cells ≤ R.cells ∧ slots ≤ R.slots) (hdg : decode cc pc = .ok (.invokevirtual index, 3))
    (hst : v.toList ++ rest = st1) (hw : puts ws is W1 = ws1)
    (kk : ∀ (H1 : Heap) (locs1 : List Loc), Gd D tys A H0 s ws1 H1 locs1 → W p l e R s m args below meth c H1 locs1 cells slots Q (F0 m (pc + 3) ls st1)) : W p l e R s m args below meth c H locs cells slots Q (F0 m pc ls st0) :=
  k_call G is hC (hf1.trans hf0.symm) (va_runV (As := As) (rest := rest) S (hM H.size) (cwV n S.2.2.2.2 hg hwc hR.1.1 hR.1.2 hd hR.2) ⟨kPre_blind, va_recv G.1 G.2.1 hc he, fun U hU hW => kPre_of G hn hC U hU hW⟩ rfl hlen hls hst0 (lv_room hrest) hdg hz) hst hw kk
theorem k_callS {y : MethodName} {wc wc' : List Cond} {rm : Room} {W0 W1 : va_W} {v : Option Value} {bytes : ByteArray} {maxL n index : Nat} {ret : Option FieldType} {As st0 st1 : List Value}
    (S : CallFix p m c cc nL s args Ts own) (G : Gd D tys A H0 s ws H locs) (hM : Ct l y wc rm D tys As W0 v W1) (hg : GoodIn Ts (wsS own index y wc)) (hwc : wc = Cond.code y bytes maxL ret :: wc') (hd : y.cls = own ∧ y.cls ≠ "java/lang/invoke/MethodHandle" ∧ y.cls ≠ "java/lang/invoke/VarHandle" ∧ (parseMethodDescriptor y.desc).map (fun d => d.parameters.length) = some n) (hR : (rm.cells = 0 ∧ rm.slots = 0) ∧ rm.frames + 1 ≤ R.frames ∧ 8 + (maxL + 11) + rm.locals ≤ R.locals)
    (is : List Nat) (hn : va_nd is = true) (hC : is.map (fun i => ws[i]?) = W0.map some) (L : List Nat) (hf1 : W1.map Prod.fst = L) (hf0 : W0.map Prod.fst = L) (hlen : As.length = n) (hls : ls.size = nL) (hst0 : st0 = As.reverse ++ rest) (hrest : (rest.map fun v => v.category).sum ≤ 8) (hz : cells ≤ R.cells ∧ slots ≤ R.slots) (hdg : decode cc pc = .ok (.invokestatic index, 3))
    (hst : v.toList ++ rest = st1) (hw : puts ws is W1 = ws1)
    (kk : ∀ (H1 : Heap) (locs1 : List Loc), Gd D tys A H0 s ws1 H1 locs1 → W p l e R s m args below meth c H1 locs1 cells slots Q (F0 m (pc + 3) ls st1)) : W p l e R s m args below meth c H locs cells slots Q (F0 m pc ls st0) :=
  k_call G is hC (hf1.trans hf0.symm) (va_runS (As := As) (rest := rest) S (hM H.size) (cwS n S.2.2.2.2 hg hwc hR.1.1 hR.1.2 hd hR.2) ⟨kPre_blind, fun U hU hW => kPre_of G hn hC U hU hW⟩ rfl hlen hls hst0 (lv_room hrest) hdg hz) hst hw kk
theorem k_post {W1 : va_W} {v : Option Value} {t : State} (G : Gd D tys A s.heap s ws H locs) (hw : ws = W1) (ht : t.heap = H) (hW : s.WarmedH t.vm) : kPost D tys A W1 v s (.returned v) t := by
  subst hw
  exact ⟨rfl, by rw [ht]; exact G.2.1, va_K.moved hW.alike G.1, G.2.2.1, G.2.2.2.1.F ht⟩
theorem k_iret {W1 : va_W} {x r : Int32} (S : CallFix p m c cc nL s args Ts own) (G : Gd D tys A s.heap s ws H locs) (hr : meth.sig.returnType = some .int) (hlk : meth.locks = false) (hdg : decode cc pc = .ok (.ireturn, 1)) (hx : x = r) (hw : ws = W1) : W p l e R s m args below meth c H locs 0 0 (QE below args s D tys A (some (.int r)) W1) (F0 m pc ls [.int x]) := by
  subst hx
  exact W.iret (v := x) S.1 S.2.1 hr (fun t ht hW => k_post G hw ht hW) G.2.2.2.1.2.2 hdg hlk
theorem k_zret {W1 : va_W} {x r : Int32} (S : CallFix p m c cc nL s args Ts own) (G : Gd D tys A s.heap s ws H locs) (hr : meth.sig.returnType = some .boolean) (hlk : meth.locks = false) (hdg : decode cc pc = .ok (.ireturn, 1)) (hn : x = 0 ∨ x = 1) (hx : x = r) (hw : ws = W1) : W p l e R s m args below meth c H locs 0 0 (QE below args s D tys A (some (.int r)) W1) (F0 m pc ls [.int x]) := by
  subst hx
  exact W.zret (v := x) S.1 S.2.1 hr (by rcases hn with h | h <;> subst h <;> rfl) (fun t ht hW => k_post G hw ht hW) G.2.2.2.1.2.2 hdg hlk
theorem k_lret {W1 : va_W} {x r : Int64} (S : CallFix p m c cc nL s args Ts own) (G : Gd D tys A s.heap s ws H locs) (hr : meth.sig.returnType = some .long) (hlk : meth.locks = false) (hdg : decode cc pc = .ok (.lreturn, 1)) (hx : x = r) (hw : ws = W1) : W p l e R s m args below meth c H locs 0 0 (QE below args s D tys A (some (.long r)) W1) (F0 m pc ls [.long x]) := by
  subst hx
  exact W.lret (v := x) S.1 S.2.1 hr (fun t ht hW => k_post G hw ht hW) G.2.2.2.1.2.2 hdg hlk
theorem k_vret {W1 : va_W} (S : CallFix p m c cc nL s args Ts own) (G : Gd D tys A s.heap s ws H locs) (hr : meth.sig.returnType = none) (hlk : meth.locks = false) (hdg : decode cc pc = .ok (.return_, 1)) (hw : ws = W1) : W p l e R s m args below meth c H locs 0 0 (QE below args s D tys A none W1) (F0 m pc ls []) :=
  W.vret S.1 S.2.1 hr (fun t ht hW => k_post G hw ht hW) G.2.2.2.1.2.2 hdg hlk
theorem k_aret {W1 : va_W} {x r : Nat} {C : String} (S : CallFix p m c cc nL s args Ts own) (G : Gd D tys A s.heap s ws H locs) (hr : meth.sig.returnType = some (.object C)) (hlk : meth.locks = false) (hdg : decode cc pc = .ok (.areturn, 1)) (hx : x = r) (hw : ws = W1) : W p l e R s m args below meth c H locs 0 0 (QE below args s D tys A (some (.ref r)) W1) (F0 m pc ls [.ref x]) := by
  subst hx
  exact W.aret (v := .ref x) S.1 S.2.1 hr (Or.inl ⟨_, rfl⟩) (Or.inr ⟨_, rfl⟩) (fun t ht hW => k_post G hw ht hW) G.2.2.2.1.2.2 hdg hlk
theorem k_mmin (S : CallFix p m c cc nL s args Ts own) (hls : ls.size = nL) {index : Nat} (hlink : (Cond.methodLink own index Lib.Math.min.name).before args s = true) (hstat : (Cond.static Lib.Math.min.name).before args s = true) (hini : (Cond.initialized "java/lang/Math").before args s = true) (hcode : (Cond.code Lib.Math.min.name Lib.Math.min.code 2 (some .int)).before args s = true)
    (hframes : 1 ≤ R.frames) (hlocals : (rest.map fun v => v.category).sum + 13 ≤ R.locals) (hz : cells ≤ R.cells ∧ slots ≤ R.slots) {x y : Int32} (hdg : decode cc pc = .ok (.invokestatic index, 3))
    (kk : W p l e R s m args below meth c H locs cells slots Q (F0 m (pc + 3) ls (.int (if y < x then y else x) :: rest))) : W p l e R s m args below meth c H locs cells slots Q (F0 m pc ls (.int y :: .int x :: rest)) :=
  va_mmin S.1 S.2.1 (S.2.2.1.trans hls.symm) S.2.2.2.1 hlink hstat hini hcode hframes hlocals hz.1 hz.2 hdg kk
theorem lv_lit {x v : Int32} (h : x = v) (k : W p l e R s m args below meth c H locs cells slots Q (F0 m pc ls (.int v :: rest))) : W p l e R s m args below meth c H locs cells slots Q (F0 m pc ls (.int x :: rest)) := h ▸ k
/-- a call whose world is the whole of the caller's -/
theorem k_callA {y : MethodName} {wc wc' : List Cond} {rm : Room} {W1 : va_W} {v : Option Value} {bytes : ByteArray} {maxL n index b ci N : Nat} {ret : Option FieldType} {C : String} {T : u_T} {fs : List Value} {As st0 st1 : List Value}
    (S : CallFix p m c cc nL s args Ts own) (G : Gd D tys A H0 s ws H locs) (hM : Ct l y wc rm D tys (.ref b :: As) ws v W1) (hg : GoodIn Ts (wsV own index C y wc)) (hwc : wc = Cond.code y bytes maxL ret :: wc') (hd : y.cls = C ∧ y.cls ≠ "java/lang/invoke/MethodHandle" ∧ y.cls ≠ "java/lang/invoke/VarHandle" ∧ (parseMethodDescriptor y.desc).map (fun d => d.parameters.length) = some n) (hR : (rm.cells = 0 ∧ rm.slots = 0) ∧ rm.frames + 1 ≤ R.frames ∧ 8 + (maxL + 11) + rm.locals ≤ R.locals)
    (q0 : Nat) (he : ws[q0]? = some (b, .inr (ci, fs))) (hc : vwCl[ci]? = some (C, T, N)) (hlen : As.length = n) (hls : ls.size = nL) (hst0 : st0 = As.reverse ++ .ref b :: rest) (hrest : (rest.map fun v => v.category).sum ≤ 8) (hz : cells ≤ R.cells ∧ slots ≤ R.slots) (hdg : decode cc pc = .ok (.invokevirtual index, 3))
    (hst : v.toList ++ rest = st1) (hw : W1 = ws1)
    (kk : ∀ (H1 : Heap) (locs1 : List Loc), Gd D tys A H0 s ws1 H1 locs1 → W p l e R s m args below meth c H1 locs1 cells slots Q (F0 m (pc + 3) ls st1)) : W p l e R s m args below meth c H locs cells slots Q (F0 m pc ls st0) := by
  subst hst
  subst hw
  have hFc : ∀ q, va_A ws H.size q → A q := by
    intro q h
    rcases h with ⟨k, e, h⟩ | h
    · exact G.2.2.1.2 k (q, e) h
    · exact G.2.2.2.2 q (Nat.le_trans G.2.2.2.1.1 h)
  have hS := G.2.2.2.1
  have hr := va_runV (e := e) (below := below) (meth := meth) (locs := locs) (cells := cells) (slots := slots) (g := F0 m pc ls st0) (As := As) (rest := rest) S (hM H.size) (cwV n S.2.2.2.2 hg hwc hR.1.1 hR.1.2 hd hR.2) ⟨kPre_blind, va_recv G.1 G.2.1 hc he, fun U hU hW => ⟨rfl, by rw [hU], by rw [hU]; exact G.2.1, va_K.moved hW.alike G.1, G.2.2.1.weaken (fun _ _ _ _ => trivial)⟩⟩ rfl hlen hls hst0 (lv_room hrest) hdg hz
  intro T hT X
  obtain ⟨v', st₀, t, T', L, h0, X', hL, e1, e2, ⟨hv, hP1, -, hD1, hz1, hk⟩, st⟩ := hr T hT X
  cases hv
  rw [h0] at hz1 hk
  rw [← e1] at hP1 hz1 hk
  have G1 : Gd D tys A H0 s W1 T'.heap (locs ++ L) := by
    refine ⟨G.1, hP1, hD1.weaken (fun _ _ _ h => hFc _ h), ⟨Nat.le_trans hS.1 hz1, fun q h1 h2 => ?_, fun q hq => ?_⟩, G.2.2.2.2⟩
    · rw [hk q (Nat.lt_of_lt_of_le h1 hS.1) (fun z => h2 (hFc q z))]
      exact hS.2.1 q h1 h2
    · rcases List.mem_append.mp hq with h | h
      · exact hS.2.2 q h
      · exact hFc _ (hL q h)
  obtain ⟨t2, a1, b1⟩ := kk T'.heap (locs ++ L) G1 T' rfl X'
  exact ⟨t2, st t2 a1, b1⟩
end KB
