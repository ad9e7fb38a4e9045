/-! ===== constructors: contracts of methods that make cells ===== -/
/-- what the tables say of nest mates and of arrays of States -/
def NX (U : State) : Prop := va_Nw (.methodLinkNest RX3 9 yX0_init RX3) U ∧ va_Nw (.methodLinkNest RX0 25 yX1_init RX3) U ∧ va_AO RX0 U
theorem NX.warm {s U : State} (hW : s.WarmedH U.vm) (h : NX s) : NX U := ⟨va_Nw.warmM hW h.1, va_Nw.warmM hW h.2.1, va_AO.moved hW.alike h.2.2⟩
theorem NX.same {s U : State} (e : s.vm = U.vm) (h : NX s) : NX U := ⟨va_Nw.same rfl e h.1, va_Nw.same rfl e h.2.1, va_AO.moved (e ▸ Vm.Alike.refl s.vm) h.2.2⟩
def CtN (l : Launch) (y : MethodName) (wc : List Cond) (rm : Room) (D : va_G) (tys : List (ClassId × FieldType)) (av : List Value) (W0 : va_W) (mc ms : Nat) (W1 : (Nat → Nat) → va_W) : Prop :=
  ∀ sz, Met l y wc rm (va_Pc av (fun U => kPre D tys W0 sz U ∧ NX U)) (fun _ st o t => ∃ bb : Nat → Nat, kPost D tys (va_A W0 sz) (W1 bb) none st o t) mc ms (va_A W0 sz)
def QN (below : List Frame) (args : Array Value) (s : State) (D : va_G) (tys : List (ClassId × FieldType)) (A : Nat → Prop) (mc ms : Nat) (W1 : (Nat → Nat) → va_W) : State → Prop :=
  MQ below (fun _ st o t => ∃ bb : Nat → Nat, kPost D tys A (W1 bb) none st o t) args s mc ms A
theorem kPreN_blind {D : va_G} {tys : List (ClassId × FieldType)} {W0 : va_W} {sz : Nat} {av : List Value} : FrameBlind (va_Pc av (fun U => kPre D tys W0 sz U ∧ NX U)) := by
  intro a U g mk q
  obtain ⟨q0, ⟨q1, qP, qK, qD⟩, qN⟩ := q
  exact ⟨q0, ⟨q1, qP, va_K.moved (u := U) (U := U.calling g mk a) (Vm.Alike.refl U.vm) qK, qD⟩, NX.same (s := U) (U := U.calling g mk a) rfl qN⟩
theorem CtN.of {l : Launch} {y : MethodName} {wc wc' : List Cond} {rm : Room} {D : va_G} {tys : List (ClassId × FieldType)} {av : List Value} {W0 : va_W} {mc ms : Nat} {W1 : (Nat → Nat) → va_W} {cc : ByteArray} {maxL : Nat} {ret : Option FieldType}
    (hy : plainName y.cls = true) (hw : wc = Cond.code y cc maxL ret :: wc') (hav : (lg_sl av).length ≤ maxL)
    (body : ∀ (p : Program) (e : Env) (s : State) (m : MethodId) (args : Array Value) (below : List Frame) (meth : Method) (c : Code) (A : Nat → Prop) (ls : Array Slot), CallFix p m c cc maxL s args wc y.cls → meth.sig.returnType = ret → meth.locks = false → meth.name = y.name → NX s → Gd D tys A s.heap s W0 s.heap [] → lv_has ls maxL (lv_args 0 av) →
      W p l e rm s m args below meth c s.heap [] 0 0 (QN below args s D tys A mc ms W1) (F0 m 0 ls [])) : CtN l y wc rm D tys av W0 mc ms W1 := by
  intro sz
  refine Met.ofW (cc := cc) (maxL := maxL) (ret := ret) hy hw ?_
  intro p e s m args below meth c s₁ B hml hv
  obtain ⟨rfl, ⟨hsz, hP, hK, hD0⟩, hN⟩ := hv
  have hts := atoms_spec (ws := wc) B.pre
  have hown : s.vm.findClass y.cls = some m.cls := findClass_of_methodNamed B.named
  subst hsz
  have hD := hD0.self (sz := s.heap.size)
  rw [lg_entry_eq]
  exact body p e s m av.toArray below meth c (va_A W0 s.heap.size) _ ⟨B.exec, B.bytes, hml, hown, hts⟩ B.returns B.notSynchronized (name_of_methodNamed B.named B.method).1 hN ⟨hK, hP, hD, va_S.rf, fun q h => Or.inr h⟩ (lv_entry av hav)
section KN
variable {p : Program} {l : Launch} {e : Env} {R : Room} {s : State} {m : MethodId} {args : Array Value} {below : List Frame} {meth : Method} {c : Code} {H : Heap} {locs : List Loc} {cells slots : Nat} {Q : State → Prop}
variable {cc : ByteArray} {pc nL : Nat} {ls : Array Slot} {rest : List Value} {D : va_G} {A : Nat → Prop} {a : Nat} {tys : List (ClassId × FieldType)} {ws ws1 : va_W} {H0 : Heap} {Ts : List Cond} {own : String}
theorem k_objInit (S : CallFix p m c cc nL s args Ts own) (hls : ls.size = nL) {idx : Nat} (hlink : (Cond.methodLink own idx Lib.objectInit).before args s = true) (hinst : (Cond.instanceMethod Lib.objectInit).before args s = true) (hcode : (Cond.code Lib.objectInit ⟨#[0xb1]⟩ 1 none).before args s = true)
    (hd : decode cc pc = .ok (.invokespecial idx, 3)) (hframes : 1 ≤ R.frames) (hlocals : 2 * (F0 m pc ls [.ref a]).monitorRoom + (([] : List Value).map fun v => v.category).sum + 12 ≤ R.locals)
    (kk : W p l e R s m args below meth c H locs cells slots Q (F0 m (pc + 3) ls [])) : W p l e R s m args below meth c H locs cells slots Q (F0 m pc ls [.ref a]) :=
  W.objInit (g := F0 m pc ls [.ref a]) (rest := []) S.1 S.2.1 S.2.2.2.1 hlink hinst hcode rfl (hls.trans S.2.2.1.symm) rfl hd hframes hlocals kk
theorem k_putF (S : CallFix p m c cc nL s args Ts own) (G : Gd D tys A H0 s ws H locs) (hin2 : meth.name = "<init>") (q0 : Nat) {ci : Nat} {fs : List Value} (he : ws[q0]? = some (a, .inr (ci, fs))) {C : String} {T : u_T} {N : Nat} (hc : vwCl[ci]? = some (C, T, N)) (hin : ∀ w ∈ u_ws C T N, w ∈ Ts) (ty0 : Nat → FieldType) (hty : ∀ k, k < N → parseFieldDescriptor (T k).2.2.1 = some (ty0 k)) (hnm : ∀ a, a < N → ∀ b, b < N → a ≠ b → (T a).2.1 ≠ (T b).2.1) (k : Nat) (hk : k < N) {index : Nat} (hlink : (Cond.fieldLink own index (T k).1 (T k).2.1 (T k).2.2.1).before args s = true) (hfin : (T k).2.2.2 = true) (hdecl : (T k).1 = own) {v : Value} (hn : narrow (ty0 k) v = v) (hfit : fits (ty0 k) v = true) (hl : k < fs.length) (hdg : decode cc pc = .ok (.putfield index, 3))
    (hw : ws.set q0 (a, .inr (ci, fs.set k v)) = ws1) (kk : ∀ (H1 : Heap) (locs1 : List Loc), Gd D tys A H0 s ws1 H1 locs1 → W p l e R s m args below meth c H1 locs1 cells slots Q (F0 m (pc + 3) ls rest)) : W p l e R s m args below meth c H locs cells slots Q (F0 m pc ls (v :: .ref a :: rest)) := by
  subst hw
  exact va_putF S.1 S.2.1 S.2.2.2.2 hin ty0 hty hnm S.2.2.2.1 G.1 G.2.1 G.2.2.1 G.2.2.2.1 q0 he hc k hk hlink (fun _ h => h) hfin hin2 hdecl (hty k hk) hn hfit hl hdg (fun H1 locs1 hP hD hS => kk H1 locs1 ⟨G.1, hP, hD, hS, G.2.2.2.2⟩)
theorem k_new (S : CallFix p m c cc nL s args Ts own) (G : Gd D tys A H0 s ws H locs) {C : String} {T : u_T} {N ci index : Nat} (hin : ∀ w ∈ u_ws C T N, w ∈ Ts) (ty : Nat → FieldType) (hty : ∀ k, k < N → parseFieldDescriptor (T k).2.2.1 = some (ty k)) (hcl : (Cond.classLink own index C).before args s = true) (hinst : (Cond.instantiable C N).before args s = true) (hini : (Cond.initialized C).before args s = true)
    (hc : vwCl[ci]? = some (C, T, N)) {fs : List Value} (hfs : ∀ j, j < N → defaultValue (ty j) = vp_V fs j) {c1 s1 : Nat} (hc1 : cells + 1 = c1) (hs1 : slots + N = s1) (hcells : c1 ≤ R.cells) (hslots : s1 ≤ R.slots) (hdg : decode cc pc = .ok (.new index, 3))
    (kk : ∀ (q : Nat) (H1 : Heap), Gd D tys A H0 s (ws ++ [(q, .inr (ci, fs))]) H1 locs → W p l e R s m args below meth c H1 locs c1 s1 Q (F0 m (pc + 3) ls (.ref q :: rest))) : W p l e R s m args below meth c H locs cells slots Q (F0 m pc ls rest) := by
  subst hc1; subst hs1
  exact va_new S.1 S.2.1 S.2.2.2.2 hin ty hty S.2.2.2.1 hcl hinst hini G.1 G.2.1 G.2.2.1 G.2.2.2.1 G.2.2.2.2 hc hfs hcells hslots hdg (fun q H1 hP hD hS => kk q H1 ⟨G.1, hP, hD, hS, G.2.2.2.2⟩)
theorem k_newa (S : CallFix p m c cc nL s args Ts own) (G : Gd D tys A H0 s ws H locs) {cI : ClassId} (t0 : Nat) (ht : tys[t0]? = some (cI, .int)) (harr : (Cond.arrayClass (newarray.typeOf .int)).before args s = true) {n : Int32} {N : Nat} (hn : ¬ n < 0) (hN : n.toNatClampNeg = N) (hbytes : N * componentBytes .int ≤ 536870912) {c1 s1 : Nat} (hc1 : cells + 1 = c1) (hs1 : slots + N = s1) (hcells : c1 ≤ R.cells) (hslots : s1 ≤ R.slots) (hdg : decode cc pc = .ok (.newarray .int, 2))
    (kk : ∀ (q : Nat) (H1 : Heap), Gd D tys A H0 s (ws ++ [(q, .inl (cI, N, .inl (fun _ => 0)))]) H1 locs → W p l e R s m args below meth c H1 locs c1 s1 Q (F0 m (pc + 2) ls (.ref q :: rest))) : W p l e R s m args below meth c H locs cells slots Q (F0 m pc ls (.int n :: rest)) := by
  subst hc1; subst hs1
  refine va_newa (atype := .int) (ty := .int) (a0 := (N, .inl (fun _ => 0))) S.1 S.2.1 harr rfl G.1 G.2.1 G.2.2.1 G.2.2.2.1 G.2.2.2.2 (fun cA => rfl) hn hN hbytes hcells hslots hdg (fun q cA H1 hK hP hD hS => ?_)
  have h1 : s.vm.findClass ("[" ++ FieldType.int.toString) = some cI := (G.1.2 t0 _ ht).2
  have h2 : s.vm.findClass ("[" ++ FieldType.int.toString) = some cA := (hK.2 tys.length (cA, .int) (by rw [List.getElem?_append_right (Nat.le_refl _), Nat.sub_self]; rfl)).2
  have e : cA = cI := Option.some.inj (h2.symm.trans h1)
  subst e
  exact kk q H1 ⟨G.1, hP, hD, hS, G.2.2.2.2⟩
theorem k_newq (S : CallFix p m c cc nL s args Ts own) (G : Gd D tys A H0 s ws H locs) {cS : ClassId} {C : String} (t0 : Nat) (ht : tys[t0]? = some (cS, .object C)) {index : Nat} (hclink : (Cond.classLink own index C).before args s = true) (hover : va_AO C s) {n : Int32} {N : Nat} (hn : ¬ n < 0) (hN : n.toNatClampNeg = N) (hbytes : N * 4 ≤ 536870912) {c1 s1 : Nat} (hc1 : cells + 1 = c1) (hs1 : slots + N = s1) (hcells : c1 ≤ R.cells) (hslots : s1 ≤ R.slots) (hdg : decode cc pc = .ok (.anewarray index, 3))
    (kk : ∀ (q : Nat) (H1 : Heap), Gd D tys A H0 s (ws ++ [(q, .inl (cS, N, .inr (.inr (.inr (.inr (fun _ => none))))))]) H1 locs → W p l e R s m args below meth c H1 locs c1 s1 Q (F0 m (pc + 3) ls (.ref q :: rest))) : W p l e R s m args below meth c H locs cells slots Q (F0 m pc ls (.int n :: rest)) := by
  subst hc1; subst hs1
  refine va_newq S.1 S.2.1 S.2.2.2.1 hclink hover G.1 G.2.1 G.2.2.1 G.2.2.2.1 G.2.2.2.2 hn hN hbytes hcells hslots hdg (fun q cA H1 hK hP hD hS => ?_)
  obtain ⟨-, -, -, -, -, h1⟩ := (G.1.2 t0 _ ht).2
  obtain ⟨-, -, -, -, -, h2⟩ := (hK.2 tys.length (cA, .object C) (by rw [List.getElem?_append_right (Nat.le_refl _), Nat.sub_self]; rfl)).2
  have e : cA = cS := Option.some.inj (h2.symm.trans h1)
  subst e
  exact kk q H1 ⟨G.1, hP, hD, hS, G.2.2.2.2⟩
/-- a constructor that makes nothing -/
theorem k_callI {y : MethodName} {wc wc' : List Cond} {rm : Room} {W0 W1 : va_W} {bytes : ByteArray} {maxL n index b : Nat} {As st0 : List Value}
    (S : CallFix p m c cc nL s args Ts own) (G : Gd D tys A H0 s ws H locs) (hM : Ct l y wc rm D tys (.ref b :: As) W0 none W1) (hg : GoodIn Ts wc) (hwc : wc = Cond.code y bytes maxL none :: wc') (hini : (Cond.initialized y.cls).before args s = true) (hlk : (Cond.methodLink own index y).before args s = true) (hinst : (Cond.instanceMethod y).before args s = true) (hy1 : y.name = "<init>") (hd : y.cls ≠ "java/lang/invoke/MethodHandle" ∧ y.cls ≠ "java/lang/invoke/VarHandle" ∧ (parseMethodDescriptor y.desc).map (fun d => d.parameters.length) = some n) (hR : (rm.cells = 0 ∧ rm.slots = 0) ∧ rm.frames + 1 ≤ R.frames ∧ 8 + (maxL + 11) + rm.locals ≤ R.locals)
    (is : List Nat) (hn : va_nd is = true) (hC : is.map (fun i => ws[i]?) = W0.map some) (L : List Nat) (hf1 : W1.map Prod.fst = L) (hf0 : W0.map Prod.fst = L) (hlen : As.length = n) (hls : ls.size = nL) (hst0 : st0 = As.reverse ++ .ref b :: rest) (hrest : (rest.map fun v => v.category).sum ≤ 8) (hz : cells ≤ R.cells ∧ slots ≤ R.slots) (hdg : decode cc pc = .ok (.invokespecial index, 3)) (hw : puts ws is W1 = ws1)
    (kk : ∀ (H1 : Heap) (locs1 : List Loc), Gd D tys A H0 s ws1 H1 locs1 → W p l e R s m args below meth c H1 locs1 cells slots Q (F0 m (pc + 3) ls rest)) : W p l e R s m args below meth c H locs cells slots Q (F0 m pc ls st0) :=
  k_call (st1 := rest) G is hC (hf1.trans hf0.symm) (va_runI (As := As) (rest := rest) S (hM H.size) (cwI n S.2.2.2.2 hg hwc hR.1.1 hR.1.2 hini hlk hinst hy1 hd hR.2) ⟨kPre_blind, fun U hU hW => kPre_of G hn hC U hU hW⟩ rfl hlen hls hst0 (lv_room hrest) hdg hz) rfl hw kk
/-- behind a call that makes cells: its world stood last -/
theorem k_made {st0 : List Value} {W0 P : va_W} {W1 : (Nat → Nat) → va_W} {mc ms c1 s1 : Nat} (G : Gd D tys A H0 s ws H locs) (hws : ws = P ++ W0)
    (hr : va_Run p l e R s m args below meth c H locs cells slots mc ms (F0 m pc ls st0) rest (fun st o t => ∃ bb : Nat → Nat, kPost D tys (va_A W0 H.size) (W1 bb) none st o t) (va_A W0 H.size)) (hc1 : cells + mc = c1) (hs1 : slots + ms = s1)
    (kk : ∀ (bb : Nat → Nat) (H1 : Heap) (locs1 : List Loc), Gd D tys A H0 s (P ++ W1 bb) H1 locs1 → W p l e R s m args below meth c H1 locs1 c1 s1 Q (F0 m (pc + 3) ls rest)) : W p l e R s m args below meth c H locs cells slots Q (F0 m pc ls st0) := by
  subst hws; subst hc1; subst hs1
  have hDW := G.2.2.1.right
  have hFc : ∀ q, va_A W0 H.size q → A q := by
    intro q h
    rcases h with ⟨k, e, h⟩ | h
    · exact hDW.2 k (q, e) h
    · exact G.2.2.2.2 q (Nat.le_trans G.2.2.2.1.1 h)
  have hS := G.2.2.2.1
  intro T hT X1
  obtain ⟨v', st₀, t, T', L, h0, X', hL, e1, e2, ⟨bb, hv, hP1, -, hD1, hz1, hk⟩, st⟩ := hr T hT X1
  cases hv
  rw [h0] at hz1 hk
  rw [← e1] at hP1 hz1 hk
  have outP : ∀ (k : Nat) (q : Nat × va_E), P[k]? = some q → q.1 < H.size ∧ ¬ va_A W0 H.size q.1 := by
    intro k q hq
    have hl := (G.2.1.left k q hq).lt
    refine ⟨hl, fun z => ?_⟩
    rcases z with ⟨k2, e, z⟩ | z
    · exact G.2.2.1.cross hq z rfl
    · omega
  have G1 : Gd D tys A H0 s (P ++ W1 bb) T'.heap (locs ++ L) := by
    refine ⟨G.1, ?_, ?_, ⟨Nat.le_trans hS.1 hz1, fun q h1 h2 => ?_, fun q hq => ?_⟩, G.2.2.2.2⟩
    · exact va_P.app (fun k q hq => (G.2.1.left k q hq).kept (hk q.1 (outP k q hq).1 (outP k q hq).2)) hP1
    · refine va_D.app G.2.2.1.left (hD1.weaken (fun _ _ _ h => hFc _ h)) (fun i j x y hx hy hxy => ?_)
      exact (outP i x hx).2 (by rw [hxy]; exact hD1.2 j y hy)
    · rw [hk q (Nat.lt_of_lt_of_le h1 hS.1) (fun z => h2 (hFc q z))]
      exact hS.2.1 q h1 h2
    · rcases List.mem_append.mp hq with h | h
      · exact hS.2.2 q h
      · exact hFc _ (hL q h)
  obtain ⟨t2, a1, b1⟩ := kk bb T'.heap (locs ++ L) G1 T' rfl X'
  exact ⟨t2, st t2 a1, b1⟩
theorem kPreN_of (G : Gd D tys A H0 s ws H locs) (hN : NX s) {P W0 : va_W} (hws : ws = P ++ W0) {av : List Value} (U : State) (hU : U.heap = H) (hW : s.WarmedH U.vm) : va_Pc av (fun U => kPre D tys W0 H.size U ∧ NX U) av.toArray U := by
  subst hws
  exact ⟨rfl, ⟨by rw [hU], by rw [hU]; exact G.2.1.right, va_K.moved hW.alike G.1, G.2.2.1.right.weaken (fun _ _ _ _ => trivial)⟩, hN.warm hW⟩
theorem k_callM {y : MethodName} {wc wc' : List Cond} {rm : Room} {W0 : va_W} {W1 : (Nat → Nat) → va_W} {bytes : ByteArray} {maxL index b mc ms c1 s1 : Nat} {st0 : List Value} (P : va_W)
    (S : CallFix p m c cc nL s args Ts own) (G : Gd D tys A H0 s ws H locs) (hN : NX s) (hM : CtN l y wc rm D tys [.ref b] W0 mc ms W1) (hg : GoodIn Ts wc) (hwc : wc = Cond.code y bytes maxL none :: wc') (hini : (Cond.initialized y.cls).before args s = true) (hlk : (Cond.methodLink own index y).before args s = true) (hinst : (Cond.instanceMethod y).before args s = true) (hy1 : y.name = "<init>") (hd : y.cls ≠ "java/lang/invoke/MethodHandle" ∧ y.cls ≠ "java/lang/invoke/VarHandle" ∧ (parseMethodDescriptor y.desc).map (fun d => d.parameters.length) = some 0) (hR : (rm.cells = mc ∧ rm.slots = ms) ∧ rm.frames + 1 ≤ R.frames ∧ 8 + (maxL + 11) + rm.locals ≤ R.locals)
    (hws : ws = P ++ W0) (hls : ls.size = nL) (hst0 : st0 = .ref b :: rest) (hrest : (rest.map fun v => v.category).sum ≤ 8) (hc1 : cells + mc = c1) (hs1 : slots + ms = s1) (hz : c1 ≤ R.cells ∧ s1 ≤ R.slots) (hdg : decode cc pc = .ok (.invokespecial index, 3))
    (kk : ∀ (bb : Nat → Nat) (H1 : Heap) (locs1 : List Loc), Gd D tys A H0 s (P ++ W1 bb) H1 locs1 → W p l e R s m args below meth c H1 locs1 c1 s1 Q (F0 m (pc + 3) ls rest)) : W p l e R s m args below meth c H locs cells slots Q (F0 m pc ls st0) :=
  k_made G hws (va_runI (As := []) (rest := rest) S (hM H.size) (cwI 0 S.2.2.2.2 hg hwc hR.1.1 hR.1.2 hini hlk hinst hy1 hd hR.2) ⟨kPreN_blind, fun U hU hW => kPreN_of G hN hws U hU hW⟩ rfl rfl hls hst0 (lv_room hrest) hdg ⟨by omega, by omega⟩) hc1 hs1 kk
theorem k_callMN {y : MethodName} {wc wc' : List Cond} {rm : Room} {W0 : va_W} {W1 : (Nat → Nat) → va_W} {bytes : ByteArray} {maxL index b mc ms c1 s1 : Nat} {st0 : List Value} {host : String} (P : va_W)
    (S : CallFix p m c cc nL s args Ts own) (G : Gd D tys A H0 s ws H locs) (hN : NX s) (hM : CtN l y wc rm D tys [.ref b] W0 mc ms W1) (hg : GoodIn Ts wc) (hwc : wc = Cond.code y bytes maxL none :: wc') (hlk : va_Nw (.methodLinkNest own index y host) s) (hini : (Cond.initialized y.cls).before args s = true) (hinst : (Cond.instanceMethod y).before args s = true) (hy1 : y.name = "<init>") (hd : y.cls ≠ "java/lang/invoke/MethodHandle" ∧ y.cls ≠ "java/lang/invoke/VarHandle" ∧ (parseMethodDescriptor y.desc).map (fun d => d.parameters.length) = some 0) (hR : (rm.cells = mc ∧ rm.slots = ms) ∧ rm.frames + 1 ≤ R.frames ∧ 8 + (maxL + 11) + rm.locals ≤ R.locals)
    (hws : ws = P ++ W0) (hls : ls.size = nL) (hst0 : st0 = .ref b :: rest) (hrest : (rest.map fun v => v.category).sum ≤ 8) (hc1 : cells + mc = c1) (hs1 : slots + ms = s1) (hz : c1 ≤ R.cells ∧ s1 ≤ R.slots) (hdg : decode cc pc = .ok (.invokespecial index, 3))
    (kk : ∀ (bb : Nat → Nat) (H1 : Heap) (locs1 : List Loc), Gd D tys A H0 s (P ++ W1 bb) H1 locs1 → W p l e R s m args below meth c H1 locs1 c1 s1 Q (F0 m (pc + 3) ls rest)) : W p l e R s m args below meth c H locs cells slots Q (F0 m pc ls st0) :=
  k_made G hws (va_runIN (As := []) (rest := rest) S (hM H.size) ⟨va_cnB 0 S.2.2.2.2 hg hwc hR.1.1 hR.1.2 hlk hini hd hR.2, hy1, hinst⟩ ⟨kPreN_blind, fun U hU hW => kPreN_of G hN hws U hU hW⟩ rfl rfl hls hst0 (lv_room hrest) hdg ⟨by omega, by omega⟩) hc1 hs1 kk
theorem k_nret {W1 : (Nat → Nat) → va_W} (bb : Nat → Nat) (S : CallFix p m c cc nL s args Ts own) (G : Gd D tys A s.heap s ws H locs) (hr : meth.sig.returnType = none) (hlk : meth.locks = false) (hdg : decode cc pc = .ok (.return_, 1)) (hw : ws = W1 bb) : W p l e R s m args below meth c H locs cells slots (QN below args s D tys A cells slots W1) (F0 m pc ls []) :=
  W.vret S.1 S.2.1 hr (fun t ht hW => ⟨bb, k_post G hw ht hW⟩) G.2.2.2.1.2.2 hdg hlk
end KN
