/-! more rows: arrays of batches by what they hold, making objects and arrays, casts -/
section MR2
variable {p : Program} {l : Launch} {e : Env} {R : Room} {s : State} {m : MethodId} {args : Array Value} {below : List Frame} {meth : Method} {c : Code} {H : Heap} {locs : List Loc} {cells slots : Nat} {Q : State → Prop}
variable {cc bytes : ByteArray} {pc nL mL n index : Nat} {ls : Array Slot} {rest st As : List Value} {X : Cx} {a ci q0 : Nat} {fs : List Value} {ws : va_W} {own C : String} {T : u_T} {N : Nat}
theorem m_aaldS (hx : p.tables.exec = Jvm.exec) (hb : c.code = cc) (hF : mF X s) (hS : mS X s ws H locs) (q0 : Nat) {n : Nat} {f : Nat → Option Nat} (he : ws[q0]? = some (a, .inl (X.2.2.1, n, .inr (.inr (.inr (.inr f)))))) {i : Int32} (j : Nat) (hi : i = nI j) (hj : j < n) (hn : n < 2 ^ 31) {v : Nat} (ho : f j = some v) (hdg : decode cc pc = .ok (.aaload, 1))
    (kk : W p l e R s m args below meth c H locs cells slots Q (F0 m (pc + 1) ls (.ref v :: rest))) : W p l e R s m args below meth c H locs cells slots Q (F0 m pc ls (.int i :: .ref a :: rest)) :=
  m_aald hx hb hF hS q0 he j hi hj hn hdg (by rw [ho]; exact kk)
theorem m_aaldN (hx : p.tables.exec = Jvm.exec) (hb : c.code = cc) (hF : mF X s) (hS : mS X s ws H locs) (q0 : Nat) {n : Nat} {f : Nat → Option Nat} (he : ws[q0]? = some (a, .inl (X.2.2.1, n, .inr (.inr (.inr (.inr f)))))) {i : Int32} (j : Nat) (hi : i = nI j) (hj : j < n) (hn : n < 2 ^ 31) (ho : f j = none) (hdg : decode cc pc = .ok (.aaload, 1))
    (kk : W p l e R s m args below meth c H locs cells slots Q (F0 m (pc + 1) ls (.null :: rest))) : W p l e R s m args below meth c H locs cells slots Q (F0 m pc ls (.int i :: .ref a :: rest)) :=
  m_aald hx hb hF hS q0 he j hi hj hn hdg (by rw [ho]; exact kk)
theorem m_new (hx : p.tables.exec = Jvm.exec) (hb : c.code = cc) (hG : ∀ w ∈ G, w.before args s = true) (hown : s.vm.findClass own = some m.cls) (hF : mF X s) (hz : X.2.2.2 ≤ s.heap.size) (hS : mS X s ws H locs) (hc : classes[ci]? = some (C, T, N)) (hin : ∀ w ∈ u_ws C T N, w ∈ G) {ty : Nat → FieldType} (hty : ∀ k, k < N → parseFieldDescriptor (T k).2.2.1 = some (ty k))
    (kcl : Cond.classLink own index C ∈ G) (kin : Cond.instantiable C N ∈ G) (kii : Cond.initialized C ∈ G) (fs : List Value) (hfs : ∀ j, j < N → defaultValue (ty j) = vp_V fs j) (hcells : cells + 1 ≤ R.cells) (hslots : slots + N ≤ R.slots) (hdg : decode cc pc = .ok (.new index, 3))
    (kk : ∀ (q : Nat) (H1 : Heap), mS X s (ws ++ [(q, .inr (ci, fs))]) H1 locs → W p l e R s m args below meth c H1 locs (cells + 1) (slots + N) Q (F0 m (pc + 3) ls (.ref q :: rest))) : W p l e R s m args below meth c H locs cells slots Q (F0 m pc ls rest) :=
  va_new hx hb hG hin ty hty hown (hG _ kcl) (hG _ kin) (hG _ kii) hF.1 hS.1.1 hS.1.2 hS.2 (fun q h => Nat.le_trans hz h) hc hfs hcells hslots hdg (fun q H1 h1 h2 h3 => kk q H1 ⟨⟨h1, h2⟩, h3⟩)
theorem m_newa (hx : p.tables.exec = Jvm.exec) (hb : c.code = cc) (hG : ∀ w ∈ G, w.before args s = true) (hF : mF X s) (hz : X.2.2.2 ≤ s.heap.size) (hS : mS X s ws H locs) (ka : Cond.arrayClass .int ∈ G) {n : Int32} (N : Nat) (hn : n = nI N) (hN : N < 1000) (hcells : cells + 1 ≤ R.cells) (hslots : slots + N ≤ R.slots) {at_ : ArrayType} (hat : newarray.typeOf at_ = .int) (hdg : decode cc pc = .ok (.newarray at_, 2))
    (kk : ∀ (q : Nat) (H1 : Heap), mS X s (ws ++ [(q, .inl (X.2.1, N, .inl (fun _ => 0)))]) H1 locs → W p l e R s m args below meth c H1 locs (cells + 1) (slots + N) Q (F0 m (pc + 2) ls (.ref q :: rest))) : W p l e R s m args below meth c H locs cells slots Q (F0 m pc ls (.int n :: rest)) := by
  subst hn
  refine va_newa (a0 := (N, .inl (fun _ => 0))) hx hb (by rw [hat]; exact hG _ ka) hat hF.1 hS.1.1 hS.1.2 hS.2 (fun q h => Nat.le_trans hz h) (fun cA => rfl) (nI_pos (by omega)) (nI_clamp (by omega)) (by show N * 4 ≤ _; omega) hcells hslots hdg (fun q cA H1 h0 h1 h2 h3 => ?_)
  have e1 : s.vm.findClass ("[" ++ FieldType.int.toString) = some cA := (h0.2 2 (cA, .int) rfl).2
  have e2 : s.vm.findClass ("[" ++ FieldType.int.toString) = some X.2.1 := (hF.1.2 0 (X.2.1, .int) rfl).2
  cases e1.symm.trans e2
  exact kk q H1 ⟨⟨h1, h2⟩, h3⟩
theorem m_newq (hx : p.tables.exec = Jvm.exec) (hb : c.code = cc) (hG : ∀ w ∈ G, w.before args s = true) (hown : s.vm.findClass own = some m.cls) (hF : mF X s) (hz : X.2.2.2 ≤ s.heap.size) (hS : mS X s ws H locs) (kcl : Cond.classLink own index RX2 ∈ G) {n : Int32} (N : Nat) (hn : n = nI N) (hN : N < 1000) (hcells : cells + 1 ≤ R.cells) (hslots : slots + N ≤ R.slots) (hdg : decode cc pc = .ok (.anewarray index, 3))
    (kk : ∀ (q : Nat) (H1 : Heap), mS X s (ws ++ [(q, .inl (X.2.2.1, N, .inr (.inr (.inr (.inr (fun _ => none))))))]) H1 locs → W p l e R s m args below meth c H1 locs (cells + 1) (slots + N) Q (F0 m (pc + 3) ls (.ref q :: rest))) : W p l e R s m args below meth c H locs cells slots Q (F0 m pc ls (.int n :: rest)) := by
  subst hn
  refine va_newq hx hb hown (hG _ kcl) hF.2.1 hF.1 hS.1.1 hS.1.2 hS.2 (fun q h => Nat.le_trans hz h) (nI_pos (by omega)) (nI_clamp (by omega)) (by omega) hcells hslots hdg (fun q cA H1 h0 h1 h2 h3 => ?_)
  obtain ⟨kA, comp, -, -, -, e1⟩ := (h0.2 2 (cA, .object RX2) rfl).2
  obtain ⟨kB, comp', -, -, -, e2⟩ := (hF.1.2 1 (X.2.2.1, .object RX2) rfl).2
  cases e1.symm.trans e2
  exact kk q H1 ⟨⟨h1, h2⟩, h3⟩
theorem m_astq (hx : p.tables.exec = Jvm.exec) (hb : c.code = cc) (hF : mF X s) (hS : mS X s ws H locs) (q0 qv : Nat) {n : Nat} {f : Nat → Option Nat} (he : ws[q0]? = some (a, .inl (X.2.2.1, n, .inr (.inr (.inr (.inr f)))))) {v k : Nat} {fs : List Value} (hv : ws[qv]? = some (v, .inr (k, fs))) (hk : k < 7) {i : Int32} (j : Nat) (hi : i = nI j) (hj : j < n) (hn : n < 2 ^ 31) (ws' : va_W) (hw : ws.set q0 (a, .inl (X.2.2.1, n, .inr (.inr (.inr (.inr (va_up f j (some v))))))) = ws') (hdg : decode cc pc = .ok (.aastore, 1))
    (kk : ∀ (H1 : Heap) (locs1 : List Loc), mS X s ws' H1 locs1 → W p l e R s m args below meth c H1 locs1 cells slots Q (F0 m (pc + 1) ls rest)) : W p l e R s m args below meth c H locs cells slots Q (F0 m pc ls (.ref v :: .int i :: .ref a :: rest)) := by
  subst hi
  have hc := (k_cls hk).1
  have hany : va_Any RX2 s H v := va_rAny hF.1 hS.1.1 hv hc (fun comp c0 h1 h2 => by
    by_cases h0 : k = 0
    · subst h0
      cases h1.symm.trans h2
      exact va_asg _ _
    · obtain ⟨c1, t1, f1, f2, f3⟩ := Cond.castable_spec (va_Nw.use (A := args) rfl (hF.2.2.1 k hk (by omega)))
      cases h2.symm.trans f1
      cases h1.symm.trans f2
      exact f3)
  refine va_astqM (E := RX2) hx hb hF.1 hS.1.1 hS.1.2 hS.2 q0 1 he rfl hany (vp_in_nI hj hn) hdg (fun H1 locs1 h1 h2 h3 => kk H1 locs1 ⟨⟨?_, ?_⟩, h3⟩)
  · rw [← hw]; rw [nI_clamp (Nat.lt_trans hj hn)] at h1; exact h1
  · rw [← hw]; rw [nI_clamp (Nat.lt_trans hj hn)] at h2; exact h2
/-- instanceof and checkcast of a batch of a known kind -/
theorem m_instY (hx : p.tables.exec = Jvm.exec) (hb : c.code = cc) (hG : ∀ w ∈ G, w.before args s = true) (hown : s.vm.findClass own = some m.cls) (hF : mF X s) (hS : mS X s ws H locs) (q0 : Nat) {k : Nat} {nm : String} (he : ws[q0]? = some (a, .inr (k, fs))) (hk : k < 7) (kcl : Cond.classLink own index nm ∈ G) (hy : va_Nw (.castable (RD k) nm) s) (hdg : decode cc pc = .ok (.instanceof index, 3))
    (kk : W p l e R s m args below meth c H locs cells slots Q (F0 m (pc + 3) ls (.int 1 :: rest))) : W p l e R s m args below meth c H locs cells slots Q (F0 m pc ls (.ref a :: rest)) :=
  va_instY hx hb hown (hG _ kcl) hy (va_recv hF.1 hS.1.1 (k_cls hk).1 he) hdg kk
theorem m_castY (hx : p.tables.exec = Jvm.exec) (hb : c.code = cc) (hG : ∀ w ∈ G, w.before args s = true) (hown : s.vm.findClass own = some m.cls) (hF : mF X s) (hS : mS X s ws H locs) (q0 : Nat) {k : Nat} {nm : String} (he : ws[q0]? = some (a, .inr (k, fs))) (hk : k < 7) (kcl : Cond.classLink own index nm ∈ G) (hy : va_Nw (.castable (RD k) nm) s) (hdg : decode cc pc = .ok (.checkcast index, 3))
    (kk : W p l e R s m args below meth c H locs cells slots Q (F0 m (pc + 3) ls (.ref a :: rest))) : W p l e R s m args below meth c H locs cells slots Q (F0 m pc ls (.ref a :: rest)) :=
  va_castY hx hb hown (hG _ kcl) hy (va_recv hF.1 hS.1.1 (k_cls hk).1 he) hdg kk
theorem m_instN (hx : p.tables.exec = Jvm.exec) (hb : c.code = cc) (hG : ∀ w ∈ G, w.before args s = true) (hown : s.vm.findClass own = some m.cls) (hF : mF X s) (hS : mS X s ws H locs) (q0 : Nat) {k : Nat} {nm : String} (he : ws[q0]? = some (a, .inr (k, fs))) (hk : k < 7) (kcl : Cond.classLink own index nm ∈ G) (hy : va_Nc (RD k) nm s) (hdg : decode cc pc = .ok (.instanceof index, 3))
    (kk : W p l e R s m args below meth c H locs cells slots Q (F0 m (pc + 3) ls (.int 0 :: rest))) : W p l e R s m args below meth c H locs cells slots Q (F0 m pc ls (.ref a :: rest)) :=
  va_instNo hx hb hown (hG _ kcl) hy (va_recv hF.1 hS.1.1 (k_cls hk).1 he) hdg kk
end MR2
/-! ===== the room's state ===== -/
def pool (T : Nat) (n : Nat) (ad : Nat → Nat) (g : Nat → Rc) : va_W := (List.range n).map (fun i => (ad i, dE T (g i)))
def bfn (n : Nat) (ad : Nat → Nat) : Nat → Option Nat := fun j => if j < n then some (ad j) else none
def kC (q : Nat → Nat × va_E) (A : Nat → Nat) (n : Nat) (ad : Nat → Nat) (g : Nat → Rc) (wm dy tl : Int32) (hs : Nat → Int32) : KT := (q, A, nI n, wm, dy, tl, bfn n ad, hs, pool (A 3) n ad g)
theorem pool_at {T n i : Nat} {ad : Nat → Nat} {g : Nat → Rc} (h : i < n) : (pool T n ad g)[i]? = some (ad i, dE T (g i)) := by
  simp [pool, h]
theorem pool_len {T n : Nat} {ad : Nat → Nat} {g : Nat → Rc} : (pool T n ad g).length = n := by simp [pool]
theorem pool_set {T n i : Nat} {ad : Nat → Nat} {g : Nat → Rc} {rc : Rc} (h : i < n) : (pool T n ad g).set i (ad i, dE T rc) = pool T n ad (va_up g i rc) := by
  apply List.ext_getElem?
  intro j
  by_cases hj : j = i
  · subst hj
    rw [List.getElem?_set_self (by rw [pool_len]; exact h), pool_at h, va_up_self]
  · rw [List.getElem?_set_ne (Ne.symm hj)]
    by_cases hn : j < n
    · rw [pool_at hn, pool_at hn, va_up_ne _ _ hj]
    · rw [List.getElem?_eq_none (by rw [pool_len]; omega), List.getElem?_eq_none (by rw [pool_len]; omega)]
theorem bfn_in {n j : Nat} {ad : Nat → Nat} (h : j < n) : bfn n ad j = some (ad j) := by simp [bfn, h]
theorem bfn_out {n j : Nat} {ad : Nat → Nat} (h : n ≤ j) : bfn n ad j = none := by simp [bfn, Nat.not_lt.mpr h]
section KC
variable {X : Cx} {q : Nat → Nat × va_E} {A : Nat → Nat} {n : Nat} {ad : Nat → Nat} {g : Nat → Rc} {wm dy tl : Int32} {hs : Nat → Int32} {r : Bool} {t : Tr} {j : Nat} {rc : Rc}
theorem kC_hi (h : j < n) : (kP (kC q A n ad g wm dy tl hs))[j]? = some (ad j, dE (kA (kC q A n ad g wm dy tl hs) 3) (g j)) := pool_at h
theorem kC_at (h : j < n) : (wT X (kC q A n ad g wm dy tl hs) r t)[j + 15]? = some (ad j, dE (A 3) (g j)) := pool_at h
theorem kC_set (h : j < n) : kset (kC q A n ad g wm dy tl hs) j (ad j, dE (A 3) rc) = kC q A n ad (va_up g j rc) wm dy tl hs := by
  show (q, A, nI n, wm, dy, tl, bfn n ad, hs, (pool (A 3) n ad g).set j (ad j, dE (A 3) rc)) = _
  rw [pool_set h]; rfl
theorem wC_set (h : j < n) : (wT X (kC q A n ad g wm dy tl hs) r t).set (j + 15) (ad j, dE (A 3) rc) = wT X (kC q A n ad (va_up g j rc) wm dy tl hs) r t := by
  rw [wT_set, kC_set h]
end KC
theorem va_up_same {α : Type} (f : Nat → α) (k : Nat) : va_up f k (f k) = f := by
  funext j
  by_cases h : j = k
  · subst h; rw [va_up_self]
  · rw [va_up_ne _ _ h]
theorem va_up_up {α : Type} (f : Nat → α) (k : Nat) (v w : α) : va_up (va_up f k v) k w = va_up f k w := bx_uu f k v w
/-- least ≤ v ≤ most, as both programs ask it -/
def inB (v a b : Int32) : Int32 := if v < a then 0 else if b < v then 0 else 1
theorem inB_no {v a b : Int32} (h : v < a ∨ b < v) : inB v a b = 0 := by
  unfold inB
  rcases h with h | h
  · rw [if_pos h]
  · by_cases h2 : v < a
    · rw [if_pos h2]
    · rw [if_neg h2, if_pos h]
theorem inB_yes {v a b : Int32} (h1 : ¬ v < a) (h2 : ¬ b < v) : inB v a b = 1 := by
  unfold inB
  rw [if_neg h1, if_neg h2]
theorem inB_of {v a b : Int32} (h : ¬ inB v a b = 0) : ¬ v < a ∧ ¬ b < v := by
  constructor
  · exact fun q => h (inB_no (Or.inl q))
  · exact fun q => h (inB_no (Or.inr q))
