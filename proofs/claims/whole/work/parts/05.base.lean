/-! the frame of all contracts: one world of cells, at places; all that is known lies from X.2.2.2 on -/
abbrev Cx : Type := va_G × ClassId × ClassId × Nat
def xA (X : Cx) : Nat → Prop := fun q => X.2.2.2 ≤ q
abbrev xT (X : Cx) : List (ClassId × FieldType) := [(X.2.1, .int), (X.2.2.1, .object RX2)]
theorem Nw_moved {C T : String} {u U : State} (h : u.vm.Alike U.vm) (hZ : va_Nw (.castable C T) u) : va_Nw (.castable C T) U := va_tabs rfl (rfl : (u.setVm U.vm).vm = U.vm) (by rw [Cond.castable_setVm h]; exact hZ)
/-- which kinds can be cast to which class, as the start's tables have it -/
def mKc (U : State) : Prop :=
  (∀ k, k < 7 → 0 < k → va_Nw (.castable (RD k) RX2) U) ∧ (∀ k, 2 ≤ k → k < 5 → va_Nw (.castable (RD k) RX4) U) ∧ (∀ k, 5 ≤ k → k < 7 → va_Nw (.castable (RD k) RX5) U) ∧ (∀ k, k < 2 → va_Nc (RD k) RX4 U) ∧ (∀ k, 5 ≤ k → k < 7 → va_Nc (RD k) RX4 U) ∧ (∀ k, k < 5 → va_Nc (RD k) RX5 U)
theorem mKc.moved {u U : State} (h : u.vm.Alike U.vm) (q : mKc u) : mKc U :=
  ⟨fun k a b => Nw_moved h (q.1 k a b), fun k a b => Nw_moved h (q.2.1 k a b), fun k a b => Nw_moved h (q.2.2.1 k a b), fun k a => (q.2.2.2.1 k a).moved h, fun k a b => (q.2.2.2.2.1 k a b).moved h, fun k a => (q.2.2.2.2.2 k a).moved h⟩
def mF (X : Cx) (U : State) : Prop := va_K X.1 classes (xT X) U ∧ va_AO RX2 U ∧ mKc U
theorem mF.moved {X : Cx} {u U : State} (h : u.vm.Alike U.vm) (q : mF X u) : mF X U := ⟨va_K.moved h q.1, q.2.1.moved h, q.2.2.moved h⟩
def mH (X : Cx) (ws : va_W) (H : Heap) : Prop := va_P X.1 classes ws H ∧ va_D (xA X) ws
def mIn (X : Cx) (ws : va_W) (U : State) : Prop := X.2.2.2 ≤ U.heap.size ∧ mH X ws U.heap ∧ mF X U
def mS (X : Cx) (s : State) (ws : va_W) (H : Heap) (locs : List Loc) : Prop := mH X ws H ∧ va_S (xA X) s.heap H locs
theorem mIn_blind {X : Cx} {ws : va_W} {av : List Value} : FrameBlind (va_Pc av (mIn X ws)) := fun a U g mk q => by
  obtain ⟨q0, q1, q2, q3⟩ := q
  exact ⟨q0, q1, q2, mF.moved (u := U) (U := U.calling g mk a) (Vm.Alike.refl U.vm) q3⟩
/-- contracts: an int (or a boolean), nothing, a reference or null; P: the answer and the world behind it -/
def cI (l : Launch) (y : MethodName) (b : ByteArray) (mL : Nat) (ret : Option FieldType) (rm : Room) (X : Cx) (av : List Value) (ws : va_W) (P : Int32 → va_W → Prop) : Prop :=
  Met l y (Cond.code y b mL ret :: G) rm (va_Pc av (mIn X ws)) (va_Qi P (fun w t => mH X w t.heap) (xA X)) rm.cells rm.slots (xA X)
def cV (l : Launch) (y : MethodName) (b : ByteArray) (mL : Nat) (rm : Room) (X : Cx) (av : List Value) (ws : va_W) (P : va_W → Prop) : Prop :=
  Met l y (Cond.code y b mL none :: G) rm (va_Pc av (mIn X ws)) (va_Qv P (fun w t => mH X w t.heap) (xA X)) rm.cells rm.slots (xA X)
def cQ (l : Launch) (y : MethodName) (b : ByteArray) (mL : Nat) (ret : Option FieldType) (rm : Room) (X : Cx) (av : List Value) (ws : va_W) (P : Option Nat → va_W → Prop) : Prop :=
  Met l y (Cond.code y b mL ret :: G) rm (va_Pc av (mIn X ws)) (va_Qq P (fun w t => mH X w t.heap) (xA X)) rm.cells rm.slots (xA X)
def Fx (p : Program) (s : State) (m : MethodId) (meth : Method) (c : Code) (y : MethodName) (b : ByteArray) (mL : Nat) (ret : Option FieldType) (av : List Value) (X : Cx) : Prop :=
  p.tables.exec = Jvm.exec ∧ c.code = b ∧ meth.sig.returnType = ret ∧ c.maxLocals = mL ∧ s.vm.findClass y.cls = some m.cls ∧ (∀ w ∈ G, w.before av.toArray s = true) ∧ meth.locks = false ∧ mF X s ∧ X.2.2.2 ≤ s.heap.size ∧ meth.name = y.name
theorem met_start {l : Launch} {y : MethodName} {b : ByteArray} {mL : Nat} {ret : Option FieldType} {rm : Room} {X : Cx} {av : List Value} {ws : va_W} {Qc : Array Value → State → Outcome → State → Prop} (hy : plainName y.cls = true) (hlen : (lg_sl av).length ≤ mL)
    (body : ∀ (p : Program) (e : Env) (s : State) (m : MethodId) (below : List Frame) (meth : Method) (c : Code) (ls : Array Slot), Fx p s m meth c y b mL ret av X → mS X s ws s.heap [] → lv_has ls mL (lv_args 0 av) →
      W p l e rm s m av.toArray below meth c s.heap [] 0 0 (MQ below Qc av.toArray s rm.cells rm.slots (xA X)) (F0 m 0 ls [])) :
    Met l y (Cond.code y b mL ret :: G) rm (va_Pc av (mIn X ws)) Qc rm.cells rm.slots (xA X) := by
  refine Met.ofW (cc := b) (maxL := mL) (ret := ret) hy rfl ?_
  intro p e s m args below meth c s₁ B hml hv
  obtain ⟨rfl, hz, hH, hF⟩ := hv
  have hts := atoms_spec (ws := Cond.code y b mL ret :: G) B.pre
  have hl := lv_entry av (n := mL) hlen
  rw [lg_entry_eq]
  exact body p e s m below meth c _ ⟨B.exec, B.bytes, B.returns, hml, findClass_of_methodNamed B.named, fun w h => hts w (List.mem_cons_of_mem _ h), B.notSynchronized, hF, hz, (name_of_methodNamed B.named B.method).1⟩ ⟨hH, va_S.rf⟩ hl
theorem G_pay {args : Array Value} {s : State} {y : MethodName} {b : ByteArray} {mL : Nat} {ret : Option FieldType} (hG : ∀ w ∈ G, w.before args s = true) (hc : Cond.code y b mL ret ∈ G) : ∀ w ∈ Cond.code y b mL ret :: G, ∀ (a' : Array Value) (U : State), s.WarmedH U.vm → w.before a' U = true :=
  pay_in hG (fun w h => by
    rcases List.mem_cons.mp h with e | e
    · rw [e]; exact ⟨hc, G_ok _ hc⟩
    · exact ⟨e, G_ok _ e⟩)
section MR
variable {p : Program} {l : Launch} {e : Env} {R : Room} {s : State} {m : MethodId} {args : Array Value} {below : List Frame} {meth : Method} {c : Code} {H : Heap} {locs : List Loc} {cells slots : Nat} {Q : State → Prop}
variable {cc bytes : ByteArray} {pc nL mL n index : Nat} {ls : Array Slot} {rest st As : List Value} {X : Cx} {a ci q0 : Nat} {fs : List Value} {ws : va_W} {y x : MethodName} {ret : Option FieldType} {rm : Room} {own C owner : String} {T : u_T} {N : Nat} {Qc : Array Value → State → Outcome → State → Prop}
theorem nof {d : String} {n : Nat} (h : (parseMethodDescriptor d).map (fun d => d.parameters.length) = some n) : ∀ sig, parseMethodDescriptor d = some sig → n = sig.parameters.length := fun sig q => by
  rw [q] at h; exact (Option.some.inj h).symm
theorem m_pre {av : List Value} (hF : mF X s) (hz : X.2.2.2 ≤ s.heap.size) (hS : mS X s ws H locs) : ∀ U : State, U.heap = H → s.WarmedH U.vm → va_Pc av (mIn X ws) av.toArray U := fun U hU hW => ⟨rfl, by rw [hU]; exact Nat.le_trans hz hS.2.1, by rw [hU]; exact hS.1, hF.moved hW.alike⟩
theorem m_runV (S : CallFix p m c cc nL s args G own) (hM : Met l y (Cond.code y bytes mL ret :: G) rm (va_Pc (.ref a :: As) (mIn X ws)) Qc rm.cells rm.slots (xA X))
    (kl : Cond.methodLink own index y ∈ G) (ki : Cond.instanceMethod y ∈ G) (ks : Cond.selects C y y ∈ G) (kn : Cond.initialized y.cls ∈ G) (kc : Cond.code y bytes mL ret ∈ G)
    (hd : y.cls ≠ "java/lang/invoke/MethodHandle" ∧ y.cls ≠ "java/lang/invoke/VarHandle" ∧ (parseMethodDescriptor y.desc).map (fun d => d.parameters.length) = some n) (hR : rm.frames + 1 ≤ R.frames ∧ 8 + (mL + 11) + rm.locals ≤ R.locals)
    (hF : mF X s) (hz : X.2.2.2 ≤ s.heap.size) (hS : mS X s ws H locs) (he : ws[q0]? = some (a, .inr (ci, fs))) (hc : classes[ci]? = some (C, T, N))
    (hn : As.length = n) (hsize : ls.size = nL) (hst : st = As.reverse ++ .ref a :: rest) (hW : (rest.map fun v => v.category).sum ≤ 8) (hdg : decode cc pc = .ok (.invokevirtual index, 3)) (hf : cells + rm.cells ≤ R.cells ∧ slots + rm.slots ≤ R.slots) :
    va_Run p l e R s m args below meth c H locs cells slots rm.cells rm.slots (F0 m pc ls st) rest (Qc (Value.ref a :: As).toArray) (xA X) := by
  have hG := S.2.2.2.2
  exact va_runV S hM ⟨⟨rfl, rfl, hR.1, hR.2, G_pay hG kc, List.mem_cons_self, hG _ kc, hG _ kn, ⟨hd.1, hd.2.1⟩, nof hd.2.2, hG _ kl⟩, hG _ ki, hG _ ks⟩ ⟨mIn_blind, va_recv hF.1 hS.1.1 hc he, m_pre hF hz hS⟩ rfl hn hsize hst (lv_room hW) hdg hf
theorem m_runU (S : CallFix p m c cc nL s args G own) (hM : Met l y (Cond.code y bytes mL ret :: G) rm (va_Pc (.ref a :: As) (mIn X ws)) Qc rm.cells rm.slots (xA X))
    (kl : Cond.methodLink own index x ∈ G) (ke : Cond.sameMethod x.cls owner x.name x.desc ∈ G) (k0 : Cond.instanceMethod ⟨owner, x.name, x.desc⟩ ∈ G) {b0 : ByteArray} {m0 : Nat} {r0 : Option FieldType} (k1 : Cond.code ⟨owner, x.name, x.desc⟩ b0 m0 r0 ∈ G) (ki : Cond.instanceMethod y ∈ G) (ks : Cond.selects C x y ∈ G) (kn : Cond.initialized y.cls ∈ G) (kc : Cond.code y bytes mL ret ∈ G)
    (hd : owner ≠ "java/lang/invoke/MethodHandle" ∧ owner ≠ "java/lang/invoke/VarHandle" ∧ (parseMethodDescriptor x.desc).map (fun d => d.parameters.length) = some n) (hR : rm.frames + 1 ≤ R.frames ∧ 8 + (mL + 11) + rm.locals ≤ R.locals)
    (hF : mF X s) (hz : X.2.2.2 ≤ s.heap.size) (hS : mS X s ws H locs) (he : ws[q0]? = some (a, .inr (ci, fs))) (hc : classes[ci]? = some (C, T, N))
    (hn : As.length = n) (hsize : ls.size = nL) (hst : st = As.reverse ++ .ref a :: rest) (hW : (rest.map fun v => v.category).sum ≤ 8) (hdg : decode cc pc = .ok (.invokevirtual index, 3)) (hf : cells + rm.cells ≤ R.cells ∧ slots + rm.slots ≤ R.slots) :
    va_Run p l e R s m args below meth c H locs cells slots rm.cells rm.slots (F0 m pc ls st) rest (Qc (Value.ref a :: As).toArray) (xA X) := by
  have hG := S.2.2.2.2
  exact va_runU (owner := owner) (x := x) S hM ⟨⟨rfl, rfl, hR.1, hR.2, G_pay hG kc, List.mem_cons_self⟩, hG _ kc, hG _ kn, ⟨hd.1, hd.2.1⟩, nof hd.2.2, hG _ kl, hG _ ke, va_Decl.of (hG _ k0) (hG _ k1), hG _ ks, hG _ ki⟩ ⟨mIn_blind, va_recv hF.1 hS.1.1 hc he, m_pre hF hz hS⟩ rfl hn hsize hst (lv_room hW) hdg hf
theorem m_runS (S : CallFix p m c cc nL s args G own) (hM : Met l y (Cond.code y bytes mL ret :: G) rm (va_Pc As (mIn X ws)) Qc rm.cells rm.slots (xA X))
    (kl : Cond.methodLink own index y ∈ G) (ks : Cond.static y ∈ G) (kn : Cond.initialized y.cls ∈ G) (kc : Cond.code y bytes mL ret ∈ G)
    (hd : y.cls ≠ "java/lang/invoke/MethodHandle" ∧ y.cls ≠ "java/lang/invoke/VarHandle" ∧ (parseMethodDescriptor y.desc).map (fun d => d.parameters.length) = some n) (hR : rm.frames + 1 ≤ R.frames ∧ 8 + (mL + 11) + rm.locals ≤ R.locals)
    (hF : mF X s) (hz : X.2.2.2 ≤ s.heap.size) (hS : mS X s ws H locs)
    (hn : As.length = n) (hsize : ls.size = nL) (hst : st = As.reverse ++ rest) (hW : (rest.map fun v => v.category).sum ≤ 8) (hdg : decode cc pc = .ok (.invokestatic index, 3)) (hf : cells + rm.cells ≤ R.cells ∧ slots + rm.slots ≤ R.slots) :
    va_Run p l e R s m args below meth c H locs cells slots rm.cells rm.slots (F0 m pc ls st) rest (Qc As.toArray) (xA X) := by
  have hG := S.2.2.2.2
  exact va_runS S hM ⟨⟨rfl, rfl, hR.1, hR.2, G_pay hG kc, List.mem_cons_self, hG _ kc, hG _ kn, ⟨hd.1, hd.2.1⟩, nof hd.2.2, hG _ kl⟩, hG _ ks⟩ ⟨mIn_blind, m_pre hF hz hS⟩ rfl hn hsize hst (lv_room hW) hdg hf
theorem m_runI (S : CallFix p m c cc nL s args G own) (hM : Met l y (Cond.code y bytes mL none :: G) rm (va_Pc (.ref a :: As) (mIn X ws)) Qc rm.cells rm.slots (xA X))
    (kl : Cond.methodLink own index y ∈ G) (ki : Cond.instanceMethod y ∈ G) (kn : Cond.initialized y.cls ∈ G) (kc : Cond.code y bytes mL none ∈ G) (hy1 : y.name = "<init>")
    (hd : y.cls ≠ "java/lang/invoke/MethodHandle" ∧ y.cls ≠ "java/lang/invoke/VarHandle" ∧ (parseMethodDescriptor y.desc).map (fun d => d.parameters.length) = some n) (hR : rm.frames + 1 ≤ R.frames ∧ 8 + (mL + 11) + rm.locals ≤ R.locals)
    (hF : mF X s) (hz : X.2.2.2 ≤ s.heap.size) (hS : mS X s ws H locs)
    (hn : As.length = n) (hsize : ls.size = nL) (hst : st = As.reverse ++ .ref a :: rest) (hW : (rest.map fun v => v.category).sum ≤ 8) (hdg : decode cc pc = .ok (.invokespecial index, 3)) (hf : cells + rm.cells ≤ R.cells ∧ slots + rm.slots ≤ R.slots) :
    va_Run p l e R s m args below meth c H locs cells slots rm.cells rm.slots (F0 m pc ls st) rest (Qc (Value.ref a :: As).toArray) (xA X) := by
  have hG := S.2.2.2.2
  exact va_runI S hM ⟨⟨rfl, rfl, hR.1, hR.2, G_pay hG kc, List.mem_cons_self, hG _ kc, hG _ kn, ⟨hd.1, hd.2.1⟩, nof hd.2.2, hG _ kl⟩, hy1, hG _ ki⟩ ⟨mIn_blind, m_pre hF hz hS⟩ rfl hn hsize hst (lv_room hW) hdg hf
/-- super.m(..) where the class right above has the method from further up: x names it there, y is its own -/
theorem m_runSU (S : CallFix p m c cc nL s args G own) (hM : Met l y (Cond.code y bytes mL ret :: G) rm (va_Pc (.ref a :: As) (mIn X ws)) Qc rm.cells rm.slots (xA X))
    (kl : Cond.methodLink own index x ∈ G) (ke : Cond.sameMethod x.cls y.cls x.name x.desc ∈ G) (kp : Cond.superclass own x.cls ∈ G) (ki : Cond.instanceMethod y ∈ G) (kn : Cond.initialized y.cls ∈ G) (kc : Cond.code y bytes mL ret ∈ G)
    (hsub : ∀ ps pd : ClassId, s.vm.findClass x.cls = some ps → s.vm.findClass y.cls = some pd → s.vm.isSubclass ps pd = true)
    (hxy : y.name = x.name ∧ y.desc = x.desc) (hd : x.name ≠ "<init>" ∧ (parseMethodDescriptor x.desc).map (fun d => d.parameters.length) = some n) (hR : rm.frames + 1 ≤ R.frames ∧ 8 + (mL + 11) + rm.locals ≤ R.locals)
    (hF : mF X s) (hz : X.2.2.2 ≤ s.heap.size) (hS : mS X s ws H locs) (he : ws[q0]? = some (a, .inr (ci, fs))) (hc : classes[ci]? = some (C, T, N))
    (hn : As.length = n) (hsize : ls.size = nL) (hst : st = As.reverse ++ .ref a :: rest) (hW : (rest.map fun v => v.category).sum ≤ 8) (hdg : decode cc pc = .ok (.invokespecial index, 3)) (hf : cells + rm.cells ≤ R.cells ∧ slots + rm.slots ≤ R.slots) :
    va_Run p l e R s m args below meth c H locs cells slots rm.cells rm.slots (F0 m pc ls st) rest (Qc (Value.ref a :: As).toArray) (xA X) := by
  have hG := S.2.2.2.2
  obtain ⟨hx, hb, hml, hown, -⟩ := S
  have hK : Back l R p e below s args y 3 8 (PreOf R rm.cells rm.slots (va_Pc (.ref a :: As) (mIn X ws))) (PostOf Qc rm.cells rm.slots (xA X)) := back_of (bytes := bytes) (maxL := mL) (ret := ret) hM mIn_blind rfl rfl hR.1 hR.2 (G_pay hG kc) List.mem_cons_self (fun a' U hW => word_at hW (Or.inl (by first | rfl | simp [Cond.onTables, Cond.keeps, Cond.steady])) (hG _ kn))
  obtain ⟨cellB, hcB, hoB, hclB⟩ := va_recv hF.1 hS.1.1 hc he
  obtain ⟨kB, hkB, -⟩ := Vm.findClass_spec hclB
  obtain ⟨mk, methM, hnamed, hmethM, hstM, habM⟩ := Cond.instanceMethod_spec (hG _ ki)
  obtain ⟨methM', cM, hmethM', -, -, -, -, -, -, hsigM⟩ := Cond.code_spec hnamed (hG _ kc)
  cases hmethM.symm.trans hmethM'
  obtain ⟨ps, dk, kp', hps, hdk, hkp, hsuper, -, -, hnid⟩ := Cond.superclass_spec hown (hG _ kp)
  have hn' : s.methodNamed? ⟨y.cls, x.name, x.desc⟩ = some mk := by rw [← hxy.1, ← hxy.2]; exact hnamed
  have hsb : s.vm.isSubclass ps mk.cls = true := hsub _ _ hps (findClass_of_methodNamed hnamed)
  have hlen : As.length = methM.sig.parameters.length := hn.trans (nof hd.2 _ (by rw [← hxy.2]; exact hsigM))
  intro U hU XX
  obtain ⟨vm₁, X₁, hstep₁⟩ := XX.invokespecialUp hx hown (hG _ kl) (hG _ ke) hn' hmethM hstM habM hd.1 hdk hnid hps hsuper hsb (a := a) (cell := cellB) (by rw [hU]; exact hcB)
    (fun z h => by rw [h] at hoB; cases hoB) hkB (g := F0 m pc ls st) rfl (argsL := As) (rest := rest) hlen hst (by rw [hb]; exact hdg)
  obtain ⟨v, B, X', hpost, hsteps⟩ := hK m meth c ⟨U.setVm vm₁, locs, cells, slots⟩ { F0 m pc ls st with stack := rest } (.invokespecial index) mk (Value.ref a :: As).toArray X₁ rfl (hsize.trans hml.symm) (by rw [hb]; exact hdg) (lv_room hW) (X₁.named hnamed) ⟨hf.1, hf.2, m_pre hF hz hS (U.setVm vm₁) hU X₁.warmed⟩
  obtain ⟨U', l2, c2, s2⟩ := B
  obtain ⟨g', mk', t, L, e1, e2, hq, h1, hL, h2, h3⟩ := hpost
  dsimp only [Pt.U, Pt.locs, Pt.cells, Pt.slots] at X' e1 e2 h1 h2 h3 hsteps
  subst h1; subst h2; subst h3
  exact ⟨v, (U.setVm vm₁).calling g' mk' (Value.ref a :: As).toArray, t, U', L, hU, X', hL, e1, e2, hq, fun target h => hstep₁ _ (by rw [doInvoke_state]; exact hsteps.trans h)⟩
variable {av : Array Value} {st0 : List Value} {mc ms : Nat}
theorem m_ci {P : Int32 → va_W → Prop} (hr : va_Run p l e R s m args below meth c H locs cells slots mc ms (F0 m pc ls st0) rest (va_Qi P (fun w t => mH X w t.heap) (xA X) av) (xA X)) (hS : mS X s ws H locs)
    (kk : ∀ (r : Int32) (w : va_W) (H1 : Heap) (locs1 : List Loc), P r w → mS X s w H1 locs1 → W p l e R s m args below meth c H1 locs1 (cells + mc) (slots + ms) Q (F0 m (pc + 3) ls (.int r :: rest))) : W p l e R s m args below meth c H locs cells slots Q (F0 m pc ls st0) :=
  va_calli hr hS.2 (fun _ _ h => h) (fun _ h => h) (fun r u t H1 locs1 ht _ hp hB _ _ hS1 => kk r u H1 locs1 hp ⟨by rw [← ht]; exact hB, hS1⟩)
theorem m_cv {P : va_W → Prop} (hr : va_Run p l e R s m args below meth c H locs cells slots mc ms (F0 m pc ls st0) rest (va_Qv P (fun w t => mH X w t.heap) (xA X) av) (xA X)) (hS : mS X s ws H locs)
    (kk : ∀ (w : va_W) (H1 : Heap) (locs1 : List Loc), P w → mS X s w H1 locs1 → W p l e R s m args below meth c H1 locs1 (cells + mc) (slots + ms) Q (F0 m (pc + 3) ls rest)) : W p l e R s m args below meth c H locs cells slots Q (F0 m pc ls st0) :=
  va_callv hr hS.2 (fun _ _ h => h) (fun _ h => h) (fun u t H1 locs1 ht _ hp hB _ _ hS1 => kk u H1 locs1 hp ⟨by rw [← ht]; exact hB, hS1⟩)
theorem m_cq {P : Option Nat → va_W → Prop} (hr : va_Run p l e R s m args below meth c H locs cells slots mc ms (F0 m pc ls st0) rest (va_Qq P (fun w t => mH X w t.heap) (xA X) av) (xA X)) (hS : mS X s ws H locs)
    (kk : ∀ (r : Option Nat) (w : va_W) (H1 : Heap) (locs1 : List Loc), P r w → mS X s w H1 locs1 → W p l e R s m args below meth c H1 locs1 (cells + mc) (slots + ms) Q (F0 m (pc + 3) ls (va_rf r :: rest))) : W p l e R s m args below meth c H locs cells slots Q (F0 m pc ls st0) :=
  va_callq hr hS.2 (fun _ _ h => h) (fun _ h => h) (fun r u t H1 locs1 ht _ hp hB _ _ hS1 => kk r u H1 locs1 hp ⟨by rw [← ht]; exact hB, hS1⟩)
/-- heap rows -/
theorem m_get (hx : p.tables.exec = Jvm.exec) (hb : c.code = cc) (hG : ∀ w ∈ G, w.before args s = true) (hown : s.vm.findClass own = some m.cls) (hF : mF X s) (hS : mS X s ws H locs) (q0 : Nat) {ref : String} {T : u_T} {N : Nat} {fs : List Value} (he : ws[q0]? = some (a, .inr (ci, fs))) (hc : classes[ci]? = some (C, T, N)) (hin : ∀ w ∈ u_ws C T N, w ∈ G) (k : Nat) (hk : k < N) (hl : Cond.fieldLink own index ref (T k).2.1 (T k).2.2.1 ∈ G) (hsame : ∀ x, s.fieldFound? (T k).1 (T k).2.1 (T k).2.2.1 = some x → s.fieldFound? ref (T k).2.1 (T k).2.2.1 = some x) {v : Value} (hv : fs[k]? = some v) (hdg : decode cc pc = .ok (.getfield index, 3))
    (kk : W p l e R s m args below meth c H locs cells slots Q (F0 m (pc + 3) ls (v :: rest))) : W p l e R s m args below meth c H locs cells slots Q (F0 m pc ls (.ref a :: rest)) :=
  va_get hx hb hG hin hown hF.1 hS.1.1 q0 he hc k hk (hG _ hl) hsame hv hdg kk
theorem m_put (hx : p.tables.exec = Jvm.exec) (hb : c.code = cc) (hG : ∀ w ∈ G, w.before args s = true) (hown : s.vm.findClass own = some m.cls) (hF : mF X s) (hS : mS X s ws H locs) (q0 : Nat) {ref : String} {T : u_T} {N : Nat} {fs : List Value} (he : ws[q0]? = some (a, .inr (ci, fs))) (hc : classes[ci]? = some (C, T, N)) (hin : ∀ w ∈ u_ws C T N, w ∈ G) {ty0 : Nat → FieldType} (hty : ∀ k, k < N → parseFieldDescriptor (T k).2.2.1 = some (ty0 k)) (hnm : ∀ a, a < N → ∀ b, b < N → a ≠ b → (T a).2.1 ≠ (T b).2.1) (k : Nat) (hk : k < N) (hl : Cond.fieldLink own index ref (T k).2.1 (T k).2.2.1 ∈ G) (hsame : ∀ x, s.fieldFound? (T k).1 (T k).2.1 (T k).2.2.1 = some x → s.fieldFound? ref (T k).2.1 (T k).2.2.1 = some x) (hfin : (T k).2.2.2 = false) {v : Value} (hn : narrow (ty0 k) v = v) (hfit : fits (ty0 k) v = true) (hlf : k < fs.length) (ws' : va_W) (hw : ws.set q0 (a, .inr (ci, fs.set k v)) = ws')
    (hdg : decode cc pc = .ok (.putfield index, 3)) (kk : ∀ (H1 : Heap) (locs1 : List Loc), mS X s ws' H1 locs1 → W p l e R s m args below meth c H1 locs1 cells slots Q (F0 m (pc + 3) ls rest)) : W p l e R s m args below meth c H locs cells slots Q (F0 m pc ls (v :: .ref a :: rest)) :=
  va_put hx hb hG hin ty0 hty hnm hown hF.1 hS.1.1 hS.1.2 hS.2 q0 he hc k hk (hG _ hl) hsame hfin (hty k hk) hn hfit hlf hdg (fun H1 locs1 h1 h2 h3 => kk H1 locs1 ⟨⟨by rw [← hw]; exact h1, by rw [← hw]; exact h2⟩, h3⟩)
theorem m_putF (hx : p.tables.exec = Jvm.exec) (hb : c.code = cc) (hG : ∀ w ∈ G, w.before args s = true) (hown : s.vm.findClass own = some m.cls) (hF : mF X s) (hS : mS X s ws H locs) (q0 : Nat) {ref : String} {T : u_T} {N : Nat} {fs : List Value} (he : ws[q0]? = some (a, .inr (ci, fs))) (hc : classes[ci]? = some (C, T, N)) (hin : ∀ w ∈ u_ws C T N, w ∈ G) {ty0 : Nat → FieldType} (hty : ∀ k, k < N → parseFieldDescriptor (T k).2.2.1 = some (ty0 k)) (hnm : ∀ a, a < N → ∀ b, b < N → a ≠ b → (T a).2.1 ≠ (T b).2.1) (k : Nat) (hk : k < N) (hl : Cond.fieldLink own index ref (T k).2.1 (T k).2.2.1 ∈ G) (hsame : ∀ x, s.fieldFound? (T k).1 (T k).2.1 (T k).2.2.1 = some x → s.fieldFound? ref (T k).2.1 (T k).2.2.1 = some x) (hfin : (T k).2.2.2 = true) (hin2 : meth.name = "<init>") (hdecl : (T k).1 = own) {v : Value} (hn : narrow (ty0 k) v = v) (hfit : fits (ty0 k) v = true) (hlf : k < fs.length) (ws' : va_W) (hw : ws.set q0 (a, .inr (ci, fs.set k v)) = ws')
    (hdg : decode cc pc = .ok (.putfield index, 3)) (kk : ∀ (H1 : Heap) (locs1 : List Loc), mS X s ws' H1 locs1 → W p l e R s m args below meth c H1 locs1 cells slots Q (F0 m (pc + 3) ls rest)) : W p l e R s m args below meth c H locs cells slots Q (F0 m pc ls (v :: .ref a :: rest)) :=
  va_putF hx hb hG hin ty0 hty hnm hown hF.1 hS.1.1 hS.1.2 hS.2 q0 he hc k hk (hG _ hl) hsame hfin hin2 hdecl (hty k hk) hn hfit hlf hdg (fun H1 locs1 h1 h2 h3 => kk H1 locs1 ⟨⟨by rw [← hw]; exact h1, by rw [← hw]; exact h2⟩, h3⟩)
theorem m_iald (hx : p.tables.exec = Jvm.exec) (hb : c.code = cc) (hF : mF X s) (hS : mS X s ws H locs) (q0 : Nat) {n : Nat} {f : Nat → Int32} (he : ws[q0]? = some (a, .inl (X.2.1, n, .inl f))) {i : Int32} (j : Nat) (hi : i = nI j) (hj : j < n) (hn : n < 2 ^ 31) (hdg : decode cc pc = .ok (.iaload, 1))
    (kk : W p l e R s m args below meth c H locs cells slots Q (F0 m (pc + 1) ls (.int (f j) :: rest))) : W p l e R s m args below meth c H locs cells slots Q (F0 m pc ls (.int i :: .ref a :: rest)) := by
  subst hi
  have h2 := va_iald (l := l) (e := e) (below := below) (meth := meth) (locs := locs) (cells := cells) (slots := slots) (Q := Q) (R := R) (ls := ls) (rest := rest) (m := m) (args := args) hx hb hF.1 hS.1.1 q0 0 he rfl (vp_in_nI hj hn) hdg
  rw [nI_clamp (Nat.lt_trans hj hn)] at h2
  exact h2 kk
theorem m_iast (hx : p.tables.exec = Jvm.exec) (hb : c.code = cc) (hF : mF X s) (hS : mS X s ws H locs) (q0 : Nat) {n : Nat} {f : Nat → Int32} (he : ws[q0]? = some (a, .inl (X.2.1, n, .inl f))) {i v : Int32} (j : Nat) (hi : i = nI j) (hj : j < n) (hn : n < 2 ^ 31) (ws' : va_W) (hw : ws.set q0 (a, .inl (X.2.1, n, .inl (upd f j v))) = ws') (hdg : decode cc pc = .ok (.iastore, 1))
    (kk : ∀ (H1 : Heap) (locs1 : List Loc), mS X s ws' H1 locs1 → W p l e R s m args below meth c H1 locs1 cells slots Q (F0 m (pc + 1) ls rest)) : W p l e R s m args below meth c H locs cells slots Q (F0 m pc ls (.int v :: .int i :: .ref a :: rest)) := by
  subst hi
  refine va_iast hx hb hF.1 hS.1.1 hS.1.2 hS.2 q0 0 he rfl (vp_in_nI hj hn) hdg (fun H1 locs1 h1 h2 h3 => kk H1 locs1 ⟨⟨?_, ?_⟩, h3⟩)
  · rw [← hw]; rw [nI_clamp (Nat.lt_trans hj hn)] at h1; exact h1
  · rw [← hw]; rw [nI_clamp (Nat.lt_trans hj hn)] at h2; exact h2
theorem m_alenI (hx : p.tables.exec = Jvm.exec) (hb : c.code = cc) (hF : mF X s) (hS : mS X s ws H locs) (q0 : Nat) {n : Nat} {f : Nat → Int32} (he : ws[q0]? = some (a, .inl (X.2.1, n, .inl f))) (hdg : decode cc pc = .ok (.arraylength, 1))
    (kk : W p l e R s m args below meth c H locs cells slots Q (F0 m (pc + 1) ls (.int (nI n) :: rest))) : W p l e R s m args below meth c H locs cells slots Q (F0 m pc ls (.ref a :: rest)) :=
  va_alen hx hb hF.1 hS.1.1 q0 0 he rfl rfl hdg kk
theorem m_alenQ (hx : p.tables.exec = Jvm.exec) (hb : c.code = cc) (hF : mF X s) (hS : mS X s ws H locs) (q0 : Nat) {n : Nat} {f : Nat → Option Nat} (he : ws[q0]? = some (a, .inl (X.2.2.1, n, .inr (.inr (.inr (.inr f)))))) (hdg : decode cc pc = .ok (.arraylength, 1))
    (kk : W p l e R s m args below meth c H locs cells slots Q (F0 m (pc + 1) ls (.int (nI n) :: rest))) : W p l e R s m args below meth c H locs cells slots Q (F0 m pc ls (.ref a :: rest)) :=
  va_alen hx hb hF.1 hS.1.1 q0 1 he rfl rfl hdg kk
theorem m_aald (hx : p.tables.exec = Jvm.exec) (hb : c.code = cc) (hF : mF X s) (hS : mS X s ws H locs) (q0 : Nat) {n : Nat} {f : Nat → Option Nat} (he : ws[q0]? = some (a, .inl (X.2.2.1, n, .inr (.inr (.inr (.inr f)))))) {i : Int32} (j : Nat) (hi : i = nI j) (hj : j < n) (hn : n < 2 ^ 31) (hdg : decode cc pc = .ok (.aaload, 1))
    (kk : W p l e R s m args below meth c H locs cells slots Q (F0 m (pc + 1) ls (va_rf (f j) :: rest))) : W p l e R s m args below meth c H locs cells slots Q (F0 m pc ls (.int i :: .ref a :: rest)) := by
  subst hi
  have h2 := va_aldq (l := l) (e := e) (below := below) (meth := meth) (locs := locs) (cells := cells) (slots := slots) (Q := Q) (R := R) (ls := ls) (rest := rest) (m := m) (args := args) hx hb hF.1 hS.1.1 q0 1 he rfl (vp_in_nI hj hn) hdg
  rw [nI_clamp (Nat.lt_trans hj hn)] at h2
  exact h2 kk
/-- ends -/
theorem m_iret {P : Int32 → va_W → Prop} {v : Int32} {ws : va_W} (hx : p.tables.exec = Jvm.exec) (hb : c.code = cc) (hr : meth.sig.returnType = some .int) (hlk : meth.locks = false) (hS : mS X s ws H locs) (hP : P v ws) (h1 : cells ≤ mc) (h2 : slots ≤ ms) (hdg : decode cc pc = .ok (.ireturn, 1)) :
    W p l e R s m args below meth c H locs cells slots (MQ below (va_Qi P (fun w t => mH X w t.heap) (xA X)) args s mc ms (xA X)) (F0 m pc ls [.int v]) := by
  refine W.widen h1 h2 ?_
  exact W.iret hx hb hr (fun t ht hW => ⟨⟨v, ws, rfl, hP, by show mH X ws t.heap; rw [ht]; exact hS.1⟩, hS.2.F ht⟩) hS.2.2.2 hdg hlk
theorem m_zret {P : Int32 → va_W → Prop} {v : Int32} {ws : va_W} (hx : p.tables.exec = Jvm.exec) (hb : c.code = cc) (hr : meth.sig.returnType = some .boolean) (hn : narrow .boolean (.int v) = .int v) (hlk : meth.locks = false) (hS : mS X s ws H locs) (hP : P v ws) (h1 : cells ≤ mc) (h2 : slots ≤ ms) (hdg : decode cc pc = .ok (.ireturn, 1)) :
    W p l e R s m args below meth c H locs cells slots (MQ below (va_Qi P (fun w t => mH X w t.heap) (xA X)) args s mc ms (xA X)) (F0 m pc ls [.int v]) := by
  refine W.widen h1 h2 ?_
  exact W.zret hx hb hr hn (fun t ht hW => ⟨⟨v, ws, rfl, hP, by show mH X ws t.heap; rw [ht]; exact hS.1⟩, hS.2.F ht⟩) hS.2.2.2 hdg hlk
theorem m_vret {P : va_W → Prop} {ws : va_W} (hx : p.tables.exec = Jvm.exec) (hb : c.code = cc) (hr : meth.sig.returnType = none) (hlk : meth.locks = false) (hS : mS X s ws H locs) (hP : P ws) (h1 : cells ≤ mc) (h2 : slots ≤ ms) (hdg : decode cc pc = .ok (.return_, 1)) :
    W p l e R s m args below meth c H locs cells slots (MQ below (va_Qv P (fun w t => mH X w t.heap) (xA X)) args s mc ms (xA X)) (F0 m pc ls []) := by
  refine W.widen h1 h2 ?_
  exact W.vret hx hb hr (fun t ht hW => ⟨⟨ws, rfl, hP, by show mH X ws t.heap; rw [ht]; exact hS.1⟩, hS.2.F ht⟩) hS.2.2.2 hdg hlk
theorem m_qret {P : Option Nat → va_W → Prop} {r : Option Nat} {o : String} {ws : va_W} (hx : p.tables.exec = Jvm.exec) (hb : c.code = cc) (hr : meth.sig.returnType = some (.object o)) (hlk : meth.locks = false) (hS : mS X s ws H locs) (hP : P r ws) (h1 : cells ≤ mc) (h2 : slots ≤ ms) (hdg : decode cc pc = .ok (.areturn, 1)) :
    W p l e R s m args below meth c H locs cells slots (MQ below (va_Qq P (fun w t => mH X w t.heap) (xA X)) args s mc ms (xA X)) (F0 m pc ls [va_rf r]) := by
  refine W.widen h1 h2 ?_
  exact W.aret hx hb hr (Or.inl ⟨o, rfl⟩) (va_rf_or r) (fun t ht hW => ⟨⟨r, ws, rfl, hP, by show mH X ws t.heap; rw [ht]; exact hS.1⟩, hS.2.F ht⟩) hS.2.2.2 hdg hlk
end MR
