/-! THE CLAIM OUT OF ONE WALK OF THE LAW'S BODY. Your part is whole_start (and what it stands on); all else here is the same for every law, but numbers. -/
def R_law : String := "DoughRoomLaw"
def lw_P (b : Addr) (xs : List Int32) (args : Array Value) (s : State) : Prop := args = #[.ref b] ∧ s.IntsAt b xs ∧ xs.length ≤ 2048 ∧ (Jvm.Cond.and given_1 narrow_1).before args s = true
def lw_Q (_ : Array Value) (s : State) (o : Outcome) (t : State) : Prop := o = .returned (some (.int 1)) ∧ Framed s o t [] 600000 7302250
def lw_Z (below : List Frame) (a : Array Value) (s : State) : State → Prop := fun t => ∃ o, t.status = .running ∧ Ended t below o ∧ lw_Q a s o t
/-- the law's own end, with 1 on the stack, nothing written that was there before, its room as the claim has it -/
theorem lw_ret {p : Program} {l : Launch} {e : Env} {s : State} {m : MethodId} {below : List Frame} {meth : Method} {c : Code} {b : Nat} (hx : p.tables.exec = Jvm.exec) (hb : c.code = code) (hr : meth.sig.returnType = ret) (hlocks : meth.locks = false) {pc : Nat} {H : Heap} {ls : Array Slot} (hdg : decode code pc = .ok (.ireturn, 1)) : W p l e room_1 s m #[Value.ref b] below meth c H [] 600000 7302250 (lw_Z below #[Value.ref b] s) (F0 m pc ls [.int 1]) := by
  intro T hT X
  obtain ⟨fs, hret, hrun, hended, hW, hframe⟩ := X.leave (v := some (.int 1)) (hlocks := hlocks) (fun h => by rw [hr] at h; cases h)
  have hmeth' : T.vm.method? m = some meth := X.method'
  refine ⟨T.setFrames fs, ?_, .returned (some (.int 1)), hrun, hended, rfl, ⟨_, rfl⟩, hW, hframe⟩
  jvm_step X.here [X.here.top, hx, hb, hdg, hmeth', hr, ret, narrow_b1]
  (try refine ⟨rfl, ?_⟩); (try refine ⟨rfl, ?_⟩)
  first | (intro acts; rw [hret _ acts rfl rfl rfl]) | rw [hret _ _ rfl rfl rfl]
  exact Steps.refl _
/-- what holds at the law's entry: the machine, the code, the tables' words (any of lw_tbl by 'hts w (by decide +kernel)'), the script of L ints xs at the cell b, what the Statement gives of the start (any of its parts by flat_of_before) -/
def lw_At (p : Program) (s : State) (m : MethodId) (meth : Method) (c : Code) (b L : Nat) (xs : Nat → Int32) : Prop :=
  p.tables.exec = Jvm.exec ∧ c.code = code ∧ meth.sig.returnType = ret ∧ c.maxLocals = 4 ∧ s.vm.findClass R_law = some m.cls ∧ (∀ w ∈ lw_tbl, w.before #[Value.ref b] s = true) ∧ va_X b L xs s s.heap ∧ b < s.heap.size ∧ meth.locks = false ∧ (Jvm.Cond.and given_1 narrow_1).before #[Value.ref b] s = true

/-! ===== the law's world: the reference's ten cells, the room's five, the batches ===== -/
def mq (X : Cx) (B : Nat → Nat) (n : Nat) (wm dy tl : Int32) (g : Nat → Rc) (hs : Nat → Int32) (t : Tr) : Nat → Nat × va_E := fun k => match k with
  | 0 => (B 0, .inr (9, [.int (nI n), .ref (B 1), .ref (B 2), .ref (B 3), .ref (B 4), .ref (B 5), .ref (B 6), .ref (B 7), .int wm, .ref (B 8), .int dy, .int tl, .ref (B 9), .int (nI t.1), .int (bI false)]))
  | 1 => (B 1, .inl (X.2.1, 40, .inl (fun i => g i 0)))
  | 2 => (B 2, .inl (X.2.1, 40, .inl (fun i => g i 1)))
  | 3 => (B 3, .inl (X.2.1, 40, .inl (fun i => g i 3)))
  | 4 => (B 4, .inl (X.2.1, 40, .inl (fun i => g i 4)))
  | 5 => (B 5, .inl (X.2.1, 40, .inl (fun i => g i 5)))
  | 6 => (B 6, .inl (X.2.1, 40, .inl (fun i => g i 6)))
  | 7 => (B 7, .inl (X.2.1, 40, .inl (fun i => g i 7)))
  | 8 => (B 8, .inl (X.2.1, 3, .inl hs))
  | _ => (B 9, .inl (X.2.1, 40, .inl t.2))
def rs (X : Cx) (A : Nat → Nat) (n : Nat) (ad : Nat → Nat) (g : Nat → Rc) (wm dy tl : Int32) (hs : Nat → Int32) (t : Tr) : va_W :=
  (A 0, .inr (8, [.ref (A 1), .ref (A 2), .ref (A 3), .int (nI n), .int wm, .int dy, .int tl])) ::
  (A 1, .inl (X.2.2.1, 40, .inr (.inr (.inr (.inr (bfn n ad)))))) ::
  (A 2, .inl (X.2.1, 3, .inl hs)) ::
  (A 3, .inr (7, [.ref (A 4), .int (nI t.1), .int (bI false)])) ::
  (A 4, .inl (X.2.1, 10, .inl t.2)) :: pool (A 3) n ad g
theorem wL {X : Cx} {A B : Nat → Nat} {nm n : Nat} {wmm dym tlm wm dy tl : Int32} {gm g : Nat → Rc} {hsm hs : Nat → Int32} {tm t : Tr} {ad : Nat → Nat} : wT X (kC (mq X B nm wmm dym tlm gm hsm tm) A n ad g wm dy tl hs) false t = wM X B nm wmm dym tlm gm hsm (rs X A n ad g wm dy tl hs t) false tm := rfl
/-- class and reference at one state -/
def lW (X : Cx) (A B : Nat → Nat) (n : Nat) (ad : Nat → Nat) (g g' : Nat → Rc) (wm dy tl : Int32) (hs : Nat → Int32) (t : Tr) : va_W := wT X (kC (mq X B n wm dy tl g' hs t) A n ad g wm dy tl hs) false t
theorem m_sld {p : Program} {l : Launch} {e : Env} {R : Room} {s : State} {m : MethodId} {args : Array Value} {below : List Frame} {meth : Method} {c : Code} {H : Heap} {locs : List Loc} {cells slots : Nat} {Q : State → Prop} {cc : ByteArray} {pc : Nat} {ls : Array Slot} {rest : List Value} {X : Cx} {ws : va_W} {b L : Nat} {xs : Nat → Int32} (hx : p.tables.exec = Jvm.exec) (hb : c.code = cc) (hX : va_X b L xs s s.heap) (hbl : b < s.heap.size) (hbA : ¬ xA X b) (hS : mS X s ws H locs) {i v : Int32} (j : Nat) (hi : i = nI j) (hj : j < L) (hL : L ≤ 2048) (hv : xs j = v) (hdg : decode cc pc = .ok (.iaload, 1))
    (kk : W p l e R s m args below meth c H locs cells slots Q (F0 m (pc + 1) ls (.int v :: rest))) : W p l e R s m args below meth c H locs cells slots Q (F0 m pc ls (.int i :: .ref b :: rest)) := by
  subst hi
  refine va_sld hx hb hX hbl hbA hS.2 (vp_in_nI hj (by omega)) hdg ?_
  rw [nI_clamp (by omega), hv]
  exact kk
/-- the law's frame -/
def LC (p : Program) (s : State) (m : MethodId) (c : Code) (X : Cx) (b L : Nat) (xs : Nat → Int32) : Prop :=
  p.tables.exec = Jvm.exec ∧ c.code = cL_law ∧ c.maxLocals = 4 ∧ s.vm.findClass RL = some m.cls ∧ (∀ w ∈ G, w.before #[Value.ref b] s = true) ∧ mF X s ∧ X.2.2.2 ≤ s.heap.size ∧ va_X b L xs s s.heap ∧ b < s.heap.size ∧ ¬ xA X b ∧ L ≤ 2048
/-! numbers -/
theorem in_nI {v : Int32} {a M : Nat} (ha : a < 1000) (h : ¬ inB v (nI a) (nI M) = 0) : ∃ k, k ≤ M ∧ v = nI k := by
  obtain ⟨h1, h2⟩ := inB_of h
  have h0 : ¬ v < 0 := fun q => h1 (by
    rw [Int32.lt_iff_toInt_lt, Int32.toInt_zero] at q
    rw [Int32.lt_iff_toInt_lt, nI_toInt (by omega)]
    omega)
  obtain ⟨j, hj, rfl⟩ := nI_of h0
  exact ⟨j, Nat.le_of_not_lt (fun q => h2 (nI_lt q hj)), rfl⟩
theorem q_nI {wh w : Int32} (h : ¬ qOk wh w = 0) : ∃ q, q < 6 ∧ wh = nI q := by
  unfold qOk at h
  by_cases h0 : wh = 0
  · exact ⟨0, by decide, h0⟩
  · rw [if_neg h0] at h
    by_cases h2 : wh = 2
    · exact ⟨2, by decide, h2⟩
    · rw [if_neg h2] at h
      obtain ⟨k, hk, e⟩ := in_nI (a := 0) (M := 5) (by decide) h
      exact ⟨k, by omega, e⟩
theorem out8 {x : Int32} (h : x < 0 ∨ nI 8 ≤ x) : x.toInt < 0 ∨ 7 < x.toInt := by
  rcases h with h | h
  · rw [Int32.lt_iff_toInt_lt, Int32.toInt_zero] at h; exact Or.inl h
  · rw [Int32.le_iff_toInt_le, show (nI 8).toInt = 8 from by decide] at h; exact Or.inr (by omega)
theorem ix2 (x : Int32) {n : Nat} (hn : n < 2 ^ 31) : (x < 0 ∨ nI n ≤ x) ∨ ∃ j : Nat, j < n ∧ x = nI j := by
  rcases pk_ix x hn with h | h | h
  · exact Or.inl (Or.inl h)
  · exact Or.inl (Or.inr h)
  · exact Or.inr h
theorem askT_len {rc : Rc} (h : kd rc < 7) (k : Nat) : (askT rc k).length ≤ 10 := by
  unfold askT
  revert h
  generalize kd rc = d
  intro h
  match d, h with
  | 0, _ => split <;> (first | decide | (split <;> decide))
  | 1, _ => split <;> (first | decide | (split <;> decide))
  | 2, _ => split <;> (first | decide | (split <;> decide))
  | 3, _ => split <;> (first | decide | (split <;> decide))
  | 4, _ => split <;> (first | decide | (split <;> decide))
  | 5, _ => split <;> (first | decide | (split <;> decide))
  | 6, _ => split <;> (first | decide | (split <;> decide))
theorem eqv_7 {a b : Rc} {v : Int32} (h : eqv a b) (h2 : ¬ a 3 = 2) : eqv a (va_up b 7 v) :=
  ⟨fun f hf => by rw [va_up_ne _ _ hf]; exact h.1 f hf, fun q => absurd q h2⟩
theorem eqv_done {a b : Rc} {v : Int32} (h : eqv a b) : eqv (va_up (va_up a 3 2) 7 v) (va_up (va_up b 3 2) 7 v) := by
  refine ⟨fun f hf => ?_, fun _ => by rw [va_up_self, va_up_self]⟩
  rw [va_up_ne _ _ hf, va_up_ne _ _ hf]
  by_cases e : f = 3
  · subst e; rw [va_up_self, va_up_self]
  · rw [va_up_ne _ _ e, va_up_ne _ _ e]; exact h.1 f hf
