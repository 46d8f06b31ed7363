/-! ===== the reference's cells: it, its arrays by a record for each batch, heats, the trace ===== -/
def wM (X : Cx) (B : Nat → Nat) (n : Nat) (wm dy tl : Int32) (g : Nat → Rc) (hs : Nat → Int32) (rest : va_W) (r : Bool) (t : Tr) : va_W :=
  (B 0, .inr (9, [.int (nI n), .ref (B 1), .ref (B 2), .ref (B 3), .ref (B 4), .ref (B 5), .ref (B 6), .ref (B 7), .int wm, .ref (B 8), .int dy, .int tl, .ref (B 9), .int (nI t.1), .int (bI r)])) ::
  (B 1, .inl (X.2.1, 40, .inl (fun i => g i 0))) :: (B 2, .inl (X.2.1, 40, .inl (fun i => g i 1))) :: (B 3, .inl (X.2.1, 40, .inl (fun i => g i 3))) :: (B 4, .inl (X.2.1, 40, .inl (fun i => g i 4))) ::
  (B 5, .inl (X.2.1, 40, .inl (fun i => g i 5))) :: (B 6, .inl (X.2.1, 40, .inl (fun i => g i 6))) :: (B 7, .inl (X.2.1, 40, .inl (fun i => g i 7))) :: (B 8, .inl (X.2.1, 3, .inl hs)) :: (B 9, .inl (X.2.1, 40, .inl t.2)) :: rest
theorem m_ialdv {p : Program} {l : Launch} {e : Env} {R : Room} {s : State} {m : MethodId} {args : Array Value} {below : List Frame} {meth : Method} {c : Code} {H : Heap} {locs : List Loc} {cells slots : Nat} {Q : State → Prop} {cc : ByteArray} {pc : Nat} {ls : Array Slot} {rest : List Value} {X : Cx} {a : Nat} {ws : va_W} (hx : p.tables.exec = Jvm.exec) (hb : c.code = cc) (hF : mF X s) (hS : mS X s ws H locs) (q0 : Nat) {n : Nat} {f : Nat → Int32} (he : ws[q0]? = some (a, .inl (X.2.1, n, .inl f))) {i v : Int32} (j : Nat) (hi : i = nI j) (hj : j < n) (hn : n < 2 ^ 31) (hv : f j = v) (hdg : decode cc pc = .ok (.iaload, 1))
    (kk : W p l e R s m args below meth c H locs cells slots Q (F0 m (pc + 1) ls (.int v :: rest))) : W p l e R s m args below meth c H locs cells slots Q (F0 m pc ls (.int i :: .ref a :: rest)) :=
  m_iald hx hb hF hS q0 he j hi hj hn hdg (by rw [hv]; exact kk)
theorem upd_f {g : Nat → Rc} {j f : Nat} {v : Int32} : upd (fun i => g i f) j v = fun i => va_up g j (va_up (g j) f v) i f := by
  funext i
  by_cases h : i = j
  · subst h; rw [pk_us, va_up_self, va_up_self]
  · rw [pk_un h, va_up_ne _ _ h]
theorem oth_f {g : Nat → Rc} {j f f2 : Nat} {v : Int32} (h2 : f2 ≠ f) : (fun i => va_up g j (va_up (g j) f v) i f2) = fun i => g i f2 := by
  funext i
  by_cases h : i = j
  · subst h; rw [va_up_self, va_up_ne _ _ h2]
  · rw [va_up_ne _ _ h]
theorem wM_s0 {X : Cx} {B : Nat → Nat} {n : Nat} {wm dy tl : Int32} {g : Nat → Rc} {hs : Nat → Int32} {rest : va_W} {r : Bool} {t : Tr} {j : Nat} {v : Int32} : (wM X B n wm dy tl g hs rest r t).set 1 (B 1, .inl (X.2.1, 40, .inl (upd (fun i => g i 0) j v))) = wM X B n wm dy tl (va_up g j (va_up (g j) 0 v)) hs rest r t := by
  show _ = wM X B n wm dy tl (va_up g j (va_up (g j) 0 v)) hs rest r t
  unfold wM
  rw [upd_f, oth_f (f2 := 1) (f := 0) (by decide), oth_f (f2 := 3) (f := 0) (by decide), oth_f (f2 := 4) (f := 0) (by decide), oth_f (f2 := 5) (f := 0) (by decide), oth_f (f2 := 6) (f := 0) (by decide), oth_f (f2 := 7) (f := 0) (by decide)]
  rfl
theorem wM_s1 {X : Cx} {B : Nat → Nat} {n : Nat} {wm dy tl : Int32} {g : Nat → Rc} {hs : Nat → Int32} {rest : va_W} {r : Bool} {t : Tr} {j : Nat} {v : Int32} : (wM X B n wm dy tl g hs rest r t).set 2 (B 2, .inl (X.2.1, 40, .inl (upd (fun i => g i 1) j v))) = wM X B n wm dy tl (va_up g j (va_up (g j) 1 v)) hs rest r t := by
  show _ = wM X B n wm dy tl (va_up g j (va_up (g j) 1 v)) hs rest r t
  unfold wM
  rw [upd_f, oth_f (f2 := 0) (f := 1) (by decide), oth_f (f2 := 3) (f := 1) (by decide), oth_f (f2 := 4) (f := 1) (by decide), oth_f (f2 := 5) (f := 1) (by decide), oth_f (f2 := 6) (f := 1) (by decide), oth_f (f2 := 7) (f := 1) (by decide)]
  rfl
theorem wM_s3 {X : Cx} {B : Nat → Nat} {n : Nat} {wm dy tl : Int32} {g : Nat → Rc} {hs : Nat → Int32} {rest : va_W} {r : Bool} {t : Tr} {j : Nat} {v : Int32} : (wM X B n wm dy tl g hs rest r t).set 3 (B 3, .inl (X.2.1, 40, .inl (upd (fun i => g i 3) j v))) = wM X B n wm dy tl (va_up g j (va_up (g j) 3 v)) hs rest r t := by
  show _ = wM X B n wm dy tl (va_up g j (va_up (g j) 3 v)) hs rest r t
  unfold wM
  rw [upd_f, oth_f (f2 := 0) (f := 3) (by decide), oth_f (f2 := 1) (f := 3) (by decide), oth_f (f2 := 4) (f := 3) (by decide), oth_f (f2 := 5) (f := 3) (by decide), oth_f (f2 := 6) (f := 3) (by decide), oth_f (f2 := 7) (f := 3) (by decide)]
  rfl
theorem wM_s4 {X : Cx} {B : Nat → Nat} {n : Nat} {wm dy tl : Int32} {g : Nat → Rc} {hs : Nat → Int32} {rest : va_W} {r : Bool} {t : Tr} {j : Nat} {v : Int32} : (wM X B n wm dy tl g hs rest r t).set 4 (B 4, .inl (X.2.1, 40, .inl (upd (fun i => g i 4) j v))) = wM X B n wm dy tl (va_up g j (va_up (g j) 4 v)) hs rest r t := by
  show _ = wM X B n wm dy tl (va_up g j (va_up (g j) 4 v)) hs rest r t
  unfold wM
  rw [upd_f, oth_f (f2 := 0) (f := 4) (by decide), oth_f (f2 := 1) (f := 4) (by decide), oth_f (f2 := 3) (f := 4) (by decide), oth_f (f2 := 5) (f := 4) (by decide), oth_f (f2 := 6) (f := 4) (by decide), oth_f (f2 := 7) (f := 4) (by decide)]
  rfl
theorem wM_s5 {X : Cx} {B : Nat → Nat} {n : Nat} {wm dy tl : Int32} {g : Nat → Rc} {hs : Nat → Int32} {rest : va_W} {r : Bool} {t : Tr} {j : Nat} {v : Int32} : (wM X B n wm dy tl g hs rest r t).set 5 (B 5, .inl (X.2.1, 40, .inl (upd (fun i => g i 5) j v))) = wM X B n wm dy tl (va_up g j (va_up (g j) 5 v)) hs rest r t := by
  show _ = wM X B n wm dy tl (va_up g j (va_up (g j) 5 v)) hs rest r t
  unfold wM
  rw [upd_f, oth_f (f2 := 0) (f := 5) (by decide), oth_f (f2 := 1) (f := 5) (by decide), oth_f (f2 := 3) (f := 5) (by decide), oth_f (f2 := 4) (f := 5) (by decide), oth_f (f2 := 6) (f := 5) (by decide), oth_f (f2 := 7) (f := 5) (by decide)]
  rfl
theorem wM_s6 {X : Cx} {B : Nat → Nat} {n : Nat} {wm dy tl : Int32} {g : Nat → Rc} {hs : Nat → Int32} {rest : va_W} {r : Bool} {t : Tr} {j : Nat} {v : Int32} : (wM X B n wm dy tl g hs rest r t).set 6 (B 6, .inl (X.2.1, 40, .inl (upd (fun i => g i 6) j v))) = wM X B n wm dy tl (va_up g j (va_up (g j) 6 v)) hs rest r t := by
  show _ = wM X B n wm dy tl (va_up g j (va_up (g j) 6 v)) hs rest r t
  unfold wM
  rw [upd_f, oth_f (f2 := 0) (f := 6) (by decide), oth_f (f2 := 1) (f := 6) (by decide), oth_f (f2 := 3) (f := 6) (by decide), oth_f (f2 := 4) (f := 6) (by decide), oth_f (f2 := 5) (f := 6) (by decide), oth_f (f2 := 7) (f := 6) (by decide)]
  rfl
theorem wM_s7 {X : Cx} {B : Nat → Nat} {n : Nat} {wm dy tl : Int32} {g : Nat → Rc} {hs : Nat → Int32} {rest : va_W} {r : Bool} {t : Tr} {j : Nat} {v : Int32} : (wM X B n wm dy tl g hs rest r t).set 7 (B 7, .inl (X.2.1, 40, .inl (upd (fun i => g i 7) j v))) = wM X B n wm dy tl (va_up g j (va_up (g j) 7 v)) hs rest r t := by
  show _ = wM X B n wm dy tl (va_up g j (va_up (g j) 7 v)) hs rest r t
  unfold wM
  rw [upd_f, oth_f (f2 := 0) (f := 7) (by decide), oth_f (f2 := 1) (f := 7) (by decide), oth_f (f2 := 3) (f := 7) (by decide), oth_f (f2 := 4) (f := 7) (by decide), oth_f (f2 := 5) (f := 7) (by decide), oth_f (f2 := 6) (f := 7) (by decide)]
  rfl
set_option maxHeartbeats 4000000 in
set_option maxRecDepth 100000 in
theorem c_in (l : Launch) (X : Cx) (ws : va_W) (v a b : Int32) (f : Nat) : cI l yX9_in cX9_in 3 (some .boolean) (rl f) X [.int v, .int a, .int b] ws (fun r w => r = inB v a b ∧ w = ws) := by
  refine met_start (by decide) (Nat.le_of_ble_eq_true rfl) ?_
  intro p e s m below meth c ls fx hS hl
  obtain ⟨hx, hb, hr, hml, hown, hG, hlk, hF, hz, hnm⟩ := fx
  have hown : s.vm.findClass RX9 = some m.cls := hown
  have hl : lv_has ls 3 [(0, .int v), (1, .int a), (2, .int b)] := hl
  refine lv_iload_n hx hb dX9_in_0 rfl (lv_at hl 0 rfl) ?_
  refine lv_iload_n hx hb dX9_in_1 rfl (lv_at hl 1 rfl) ?_
  refine lv_icmp_lt (tgt := 14) hx hb dX9_in_2 (by decide) (fun c_1 => ?_) (fun c_1 => ?_)
  · refine lv_iconst (v := 0) hx hb dX9_in_14 (by decide) ?_
    exact m_zret hx hb hr (by decide) hlk hS (⟨(inB_no (Or.inl c_1)).symm, rfl⟩) (Nat.le_refl 0) (Nat.le_refl 0) dX9_in_15
  · refine lv_iload_n hx hb dX9_in_5 rfl (lv_at hl 0 rfl) ?_
    refine lv_iload_n hx hb dX9_in_6 rfl (lv_at hl 2 rfl) ?_
    refine lv_icmp_gt (tgt := 14) hx hb dX9_in_7 (by decide) (fun c_2 => ?_) (fun c_2 => ?_)
    · refine lv_iconst (v := 0) hx hb dX9_in_14 (by decide) ?_
      exact m_zret hx hb hr (by decide) hlk hS (⟨(inB_no (Or.inr c_2)).symm, rfl⟩) (Nat.le_refl 0) (Nat.le_refl 0) dX9_in_15
    · refine lv_iconst (v := 1) hx hb dX9_in_10 (by decide) ?_
      refine lv_goto (tgt := 15) hx hb dX9_in_11 (by decide) ?_
      exact m_zret hx hb hr (by decide) hlk hS (⟨(inB_yes c_1 c_2).symm, rfl⟩) (Nat.le_refl 0) (Nat.le_refl 0) dX9_in_15
set_option maxHeartbeats 4000000 in
set_option maxRecDepth 100000 in
theorem M_isBatch (l : Launch) (X : Cx) (B : Nat → Nat) (n : Nat) (wm dy tl : Int32) (g : Nat → Rc) (hs : Nat → Int32) (rest : va_W) (r : Bool) (t : Tr) (b : Int32) (f : Nat) (hf : 1 ≤ f) : cI l yX9_isBatch cX9_isBatch 2 (some .boolean) (rl f) X [.ref (B 0), .int b] (wM X B n wm dy tl g hs rest r t) (fun v w => v = inB b 0 (nI n - 1) ∧ w = wM X B n wm dy tl g hs rest r t) := by
  refine met_start (by decide) (Nat.le_of_ble_eq_true rfl) ?_
  intro p e s m below meth c ls fx hS hl
  obtain ⟨hx, hb, hr, hml, hown, hG, hlk, hF, hz, hnm⟩ := fx
  have hown : s.vm.findClass RX9 = some m.cls := hown
  have hl : lv_has ls 2 [(0, .ref (B 0)), (1, .int b)] := hl
  refine lv_iload_n hx hb dX9_isBatch_0 rfl (lv_at hl 1 rfl) ?_
  refine lv_iconst (v := 0) hx hb dX9_isBatch_1 (by decide) ?_
  refine lv_aload_n hx hb dX9_isBatch_2 rfl (lv_at hl 0 rfl) ?_
  refine m_get (v := .int (nI n)) hx hb hG hown hF hS (0) rfl rfl iG_9 0 (by decide) kw_471 (fun _ h9 => h9) rfl dX9_isBatch_3 ?_
  refine lv_iconst (v := 1) hx hb dX9_isBatch_6 (by decide) ?_
  refine lv_isub hx hb dX9_isBatch_7 ?_
  refine m_ci (m_runS (n := 3) (rest := []) ⟨hx, hb, hml, hown, hG⟩ (c_in l X _ b 0 ((nI n) - 1) 0) kw_521 kw_522 kw_20 kw_523 (by decide +kernel) (rl_ok (by omega) (by decide)) hF hz hS rfl hl.1 rfl (Nat.le_of_ble_eq_true rfl) dX9_isBatch_8 ⟨Nat.zero_le _, Nat.zero_le _⟩) hS (fun r_1 w1 H locs hw1 hS => ?_)
  obtain ⟨rfl, rfl⟩ := hw1
  exact m_zret hx hb hr (inB_nar _ _ _) hlk hS ⟨rfl, rfl⟩ (Nat.le_refl 0) (Nat.le_refl 0) dX9_isBatch_11
theorem isB_yes {n j : Nat} (hj : j < n) (hn : n ≤ 40) : inB (nI j) 0 (nI n - 1) = 1 := by
  obtain ⟨k, rfl⟩ : ∃ k, n = k + 1 := ⟨n - 1, by omega⟩
  rw [nI_pred]
  exact inB_yes (nI_pos (by omega)) (nI_nlt (by omega) (by omega))
theorem isB_no {n : Nat} {b : Int32} (hn : n ≤ 40) (h : b < 0 ∨ nI n ≤ b) : inB b 0 (nI n - 1) = 0 := by
  rcases h with h | h
  · exact inB_no (Or.inl h)
  · refine inB_no (Or.inr ?_)
    have e1 : (nI n).toInt = n := nI_toInt (by omega)
    have e2 : (nI n - 1).toInt = (n : Int) - 1 := by
      have := pk_sub_toInt (a := n) (b := 1) (by omega) (by omega)
      exact this
    rw [Int32.lt_iff_toInt_lt, e2]
    rw [Int32.le_iff_toInt_le, e1] at h
    omega
set_option maxHeartbeats 4000000 in
set_option maxRecDepth 100000 in
theorem M_began (l : Launch) (X : Cx) (B : Nat → Nat) (n : Nat) (wm dy tl : Int32) (g : Nat → Rc) (hs : Nat → Int32) (rest : va_W) (r : Bool) (t : Tr) (x : Int32) (f : Nat) (ht : tR r 1 t) : cV l yX9_began cX9_began 2 (rl f) X [.ref (B 0), .int x] (wM X B n wm dy tl g hs rest r t) (fun w => w = wM X B n wm dy tl g hs rest r (te r [x] t)) := by
  refine met_start (by decide) (Nat.le_of_ble_eq_true rfl) ?_
  intro p e s m below meth c ls fx hS hl
  obtain ⟨hx, hb, hr, hml, hown, hG, hlk, hF, hz, hnm⟩ := fx
  have hown : s.vm.findClass RX9 = some m.cls := hown
  have hl : lv_has ls 2 [(0, .ref (B 0)), (1, .int x)] := hl
  cases r with
  | false =>
    refine lv_aload_n hx hb dX9_began_0 rfl (lv_at hl 0 rfl) ?_
    refine m_get (v := .int (bI false)) hx hb hG hown hF hS (0) rfl rfl iG_9 14 (by decide) kw_485 (fun _ h9 => h9) rfl dX9_began_1 ?_
    refine lv_if_eq (tgt := 27) hx hb dX9_began_4 (by decide) (fun c_1 => ?_) (fun c_1 => absurd (rfl) c_1)
    exact m_vret hx hb hr hlk hS (rfl) (Nat.le_refl 0) (Nat.le_refl 0) dX9_began_27
  | true =>
    have h10 : t.1 + 1 ≤ 10 := ht rfl
    refine lv_aload_n hx hb dX9_began_0 rfl (lv_at hl 0 rfl) ?_
    refine m_get (v := .int (bI true)) hx hb hG hown hF hS (0) rfl rfl iG_9 14 (by decide) kw_485 (fun _ h9 => h9) rfl dX9_began_1 ?_
    refine lv_if_eq (tgt := 27) hx hb dX9_began_4 (by decide) (fun c_1 => absurd c_1 (by decide)) (fun c_1 => ?_)
    refine lv_aload_n hx hb dX9_began_7 rfl (lv_at hl 0 rfl) ?_
    refine m_get (v := .ref (B 9)) hx hb hG hown hF hS (0) rfl rfl iG_9 12 (by decide) kw_483 (fun _ h9 => h9) rfl dX9_began_8 ?_
    refine lv_aload_n hx hb dX9_began_11 rfl (lv_at hl 0 rfl) ?_
    refine m_get (v := .int (nI t.1)) hx hb hG hown hF hS (0) rfl rfl iG_9 13 (by decide) kw_484 (fun _ h9 => h9) rfl dX9_began_12 ?_
    refine lv_iload_n hx hb dX9_began_15 rfl (lv_at hl 1 rfl) ?_
    refine m_iast hx hb hF hS (9) rfl (t.1) rfl (by omega) (by decide) (wM X B n wm dy tl g hs rest true (t.1, upd t.2 t.1 x)) rfl dX9_began_16 (fun H locs hS => ?_)
    refine lv_aload_n hx hb dX9_began_17 rfl (lv_at hl 0 rfl) ?_
    refine lv_dup hx hb dX9_began_18 rfl ?_
    refine m_get (v := .int (nI t.1)) hx hb hG hown hF hS (0) rfl rfl iG_9 13 (by decide) kw_484 (fun _ h9 => h9) rfl dX9_began_19 ?_
    refine lv_iconst (v := 1) hx hb dX9_began_22 (by decide) ?_
    refine lv_iadd hx hb dX9_began_23 ?_
    refine m_put hx hb hG hown hF hS (0) rfl rfl iG_9 tyX9_ok nmX9 13 (by decide) kw_484 (fun _ h9 => h9) rfl rfl rfl (Nat.le_of_ble_eq_true rfl) (wM X B n wm dy tl g hs rest true (t.1 + 1, upd t.2 t.1 x)) (by rw [nI_1]; rfl) dX9_began_24 (fun H locs hS => ?_)
    exact m_vret hx hb hr hlk hS (rfl) (Nat.le_refl 0) (Nat.le_refl 0) dX9_began_27
set_option maxHeartbeats 4000000 in
set_option maxRecDepth 100000 in
theorem M_rise (l : Launch) (X : Cx) (B : Nat → Nat) (n : Nat) (wm dy tl : Int32) (g : Nat → Rc) (hs : Nat → Int32) (rest : va_W) (r : Bool) (t : Tr) (j k : Nat) (w : Int32) (f : Nat) (hj : j < 40) (ek : g j 0 = nI k) (hk : k < 7) (hf : 1 ≤ f) (ht : tR r 3 t) : cI l yX9_rise cX9_rise 5 (some .int) (rl f) X [.ref (B 0), .int (nI j), .int w] (wM X B n wm dy tl g hs rest r t) (fun v w' => v = riseV k w ∧ w' = wM X B n wm dy tl g hs rest r (te r (riseT k) t)) := by
  refine met_start (by decide) (Nat.le_of_ble_eq_true rfl) ?_
  intro p e s m below meth c ls fx hS hl
  obtain ⟨hx, hb, hr, hml, hown, hG, hlk, hF, hz, hnm⟩ := fx
  have hown : s.vm.findClass RX9 = some m.cls := hown
  have hl : lv_has ls 5 [(0, .ref (B 0)), (1, .int (nI j)), (2, .int w)] := hl
  match k, hk, ek with
  | 0, _, ek =>
    refine lv_aload_n hx hb dX9_rise_0 rfl (lv_at hl 0 rfl) ?_
    refine m_get (v := .ref (B 1)) hx hb hG hown hF hS (0) rfl rfl iG_9 1 (by decide) kw_472 (fun _ h9 => h9) rfl dX9_rise_1 ?_
    refine lv_iload_n hx hb dX9_rise_4 rfl (lv_at hl 1 rfl) ?_
    refine m_ialdv (v := nI 0) hx hb hF hS (1) rfl (j) rfl (hj) (by decide) (ek) dX9_rise_5 ?_
    refine lv_istore_n (lv' := [(3, .int (nI 0)), (0, .ref (B 0)), (1, .int (nI j)), (2, .int w)]) hx hb dX9_rise_6 rfl hl (by decide) rfl (fun ls hl => ?_)
    refine lv_iload_n hx hb dX9_rise_7 rfl (lv_at hl 0 rfl) ?_
    refine lv_iconst (v := 4) hx hb dX9_rise_8 (by decide) ?_
    refine lv_icmp_ne (tgt := 17) hx hb dX9_rise_9 (by decide) (fun c_1 => ?_) (fun c_1 => absurd c_1 (by decide))
    refine lv_iload_n hx hb dX9_rise_17 rfl (lv_at hl 0 rfl) ?_
    refine lv_iconst (v := 2) hx hb dX9_rise_18 (by decide) ?_
    refine lv_iconst (v := 4) hx hb dX9_rise_19 (by decide) ?_
    refine m_ci (m_runS (n := 3) (rest := []) ⟨hx, hb, hml, hown, hG⟩ (c_in l X _ (nI 0) 2 4 0) kw_521 kw_522 kw_20 kw_523 (by decide +kernel) (rl_ok (by omega) (by decide)) hF hz hS rfl hl.1 rfl (Nat.le_of_ble_eq_true rfl) dX9_rise_20 ⟨Nat.zero_le _, Nat.zero_le _⟩) hS (fun r_2 w1 H locs hw1 hS => ?_)
    obtain ⟨rfl, rfl⟩ := hw1
    refine lv_if_eq (tgt := 31) hx hb dX9_rise_23 (by decide) (fun c_3 => ?_) (fun c_3 => absurd (by decide) c_3)
    refine lv_iload_n hx hb dX9_rise_31 rfl (lv_at hl 0 rfl) ?_
    refine lv_bipush (v := 6) hx hb dX9_rise_32 (by decide) ?_
    refine lv_icmp_ne (tgt := 42) hx hb dX9_rise_34 (by decide) (fun c_4 => ?_) (fun c_4 => absurd c_4 (by decide))
    refine lv_aload_n hx hb dX9_rise_42 rfl (lv_at hl 1 rfl) ?_
    refine lv_iconst (v := 1) hx hb dX9_rise_43 (by decide) ?_
    refine m_cv (m_runV (n := 1) (rest := []) ⟨hx, hb, hml, hown, hG⟩ (M_began l X B n wm dy tl g hs rest r t 1 0 (ht.le (by decide))) kw_540 kw_542 kw_9 kw_20 kw_543 (by decide +kernel) (rl_ok (by omega) (by decide)) hF hz hS (q0 := 0) rfl rfl rfl hl.1 rfl (Nat.le_of_ble_eq_true rfl) dX9_rise_44 ⟨Nat.zero_le _, Nat.zero_le _⟩) hS (fun w2 H locs hw2 hS => ?_)
    subst hw2
    refine lv_iload_n hx hb dX9_rise_47 rfl (lv_at hl 3 rfl) ?_
    refine lv_iconst (v := 4) hx hb dX9_rise_48 (by decide) ?_
    refine lv_idiv hx hb dX9_rise_49 (by decide) ?_
    refine lv_istore (lv' := [(4, .int (w / 4)), (3, .int (nI 0)), (0, .ref (B 0)), (1, .int (nI j)), (2, .int w)]) hx hb dX9_rise_50 hl (by decide) rfl (fun ls hl => ?_)
    refine lv_iload_n hx hb dX9_rise_52 rfl (lv_at hl 1 rfl) ?_
    refine lv_iconst (v := 2) hx hb dX9_rise_53 (by decide) ?_
    refine lv_iconst (v := 4) hx hb dX9_rise_54 (by decide) ?_
    refine m_ci (m_runS (n := 3) (rest := []) ⟨hx, hb, hml, hown, hG⟩ (c_in l X _ (nI 0) 2 4 0) kw_521 kw_522 kw_20 kw_523 (by decide +kernel) (rl_ok (by omega) (by decide)) hF hz hS rfl hl.1 rfl (Nat.le_of_ble_eq_true rfl) dX9_rise_55 ⟨Nat.zero_le _, Nat.zero_le _⟩) hS (fun r_5 w3 H locs hw3 hS => ?_)
    obtain ⟨rfl, rfl⟩ := hw3
    refine lv_if_eq (tgt := 70) hx hb dX9_rise_58 (by decide) (fun c_6 => ?_) (fun c_6 => absurd (by decide) c_6)
    refine lv_iload hx hb dX9_rise_70 (lv_at hl 0 rfl) ?_
    refine lv_istore (lv' := [(4, .int (w / 4)), (3, .int (nI 0)), (0, .ref (B 0)), (1, .int (nI j)), (2, .int w)]) hx hb dX9_rise_72 hl (by decide) rfl (fun ls hl => ?_)
    refine lv_iload_n hx hb dX9_rise_74 rfl (lv_at hl 1 rfl) ?_
    refine lv_iconst (v := 4) hx hb dX9_rise_75 (by decide) ?_
    refine lv_icmp_ne (tgt := 86) hx hb dX9_rise_76 (by decide) (fun c_7 => ?_) (fun c_7 => absurd c_7 (by decide))
    refine lv_iload_n hx hb dX9_rise_86 rfl (lv_at hl 1 rfl) ?_
    refine lv_bipush (v := 6) hx hb dX9_rise_87 (by decide) ?_
    refine lv_icmp_ne (tgt := 102) hx hb dX9_rise_89 (by decide) (fun c_8 => ?_) (fun c_8 => absurd c_8 (by decide))
    refine lv_iload hx hb dX9_rise_102 (lv_at hl 0 rfl) ?_
    exact m_iret hx hb hr hlk hS ⟨by first | rfl | exact Int32.add_zero _ | (show _ = 2 * _; rw [Int32.add_zero]), rfl⟩ (Nat.le_refl 0) (Nat.le_refl 0) dX9_rise_104
  | 1, _, ek =>
    refine lv_aload_n hx hb dX9_rise_0 rfl (lv_at hl 0 rfl) ?_
    refine m_get (v := .ref (B 1)) hx hb hG hown hF hS (0) rfl rfl iG_9 1 (by decide) kw_472 (fun _ h9 => h9) rfl dX9_rise_1 ?_
    refine lv_iload_n hx hb dX9_rise_4 rfl (lv_at hl 1 rfl) ?_
    refine m_ialdv (v := nI 1) hx hb hF hS (1) rfl (j) rfl (hj) (by decide) (ek) dX9_rise_5 ?_
    refine lv_istore_n (lv' := [(3, .int (nI 1)), (0, .ref (B 0)), (1, .int (nI j)), (2, .int w)]) hx hb dX9_rise_6 rfl hl (by decide) rfl (fun ls hl => ?_)
    refine lv_iload_n hx hb dX9_rise_7 rfl (lv_at hl 0 rfl) ?_
    refine lv_iconst (v := 4) hx hb dX9_rise_8 (by decide) ?_
    refine lv_icmp_ne (tgt := 17) hx hb dX9_rise_9 (by decide) (fun c_1 => ?_) (fun c_1 => absurd c_1 (by decide))
    refine lv_iload_n hx hb dX9_rise_17 rfl (lv_at hl 0 rfl) ?_
    refine lv_iconst (v := 2) hx hb dX9_rise_18 (by decide) ?_
    refine lv_iconst (v := 4) hx hb dX9_rise_19 (by decide) ?_
    refine m_ci (m_runS (n := 3) (rest := []) ⟨hx, hb, hml, hown, hG⟩ (c_in l X _ (nI 1) 2 4 0) kw_521 kw_522 kw_20 kw_523 (by decide +kernel) (rl_ok (by omega) (by decide)) hF hz hS rfl hl.1 rfl (Nat.le_of_ble_eq_true rfl) dX9_rise_20 ⟨Nat.zero_le _, Nat.zero_le _⟩) hS (fun r_2 w1 H locs hw1 hS => ?_)
    obtain ⟨rfl, rfl⟩ := hw1
    refine lv_if_eq (tgt := 31) hx hb dX9_rise_23 (by decide) (fun c_3 => ?_) (fun c_3 => absurd (by decide) c_3)
    refine lv_iload_n hx hb dX9_rise_31 rfl (lv_at hl 0 rfl) ?_
    refine lv_bipush (v := 6) hx hb dX9_rise_32 (by decide) ?_
    refine lv_icmp_ne (tgt := 42) hx hb dX9_rise_34 (by decide) (fun c_4 => ?_) (fun c_4 => absurd c_4 (by decide))
    refine lv_aload_n hx hb dX9_rise_42 rfl (lv_at hl 1 rfl) ?_
    refine lv_iconst (v := 1) hx hb dX9_rise_43 (by decide) ?_
    refine m_cv (m_runV (n := 1) (rest := []) ⟨hx, hb, hml, hown, hG⟩ (M_began l X B n wm dy tl g hs rest r t 1 0 (ht.le (by decide))) kw_540 kw_542 kw_9 kw_20 kw_543 (by decide +kernel) (rl_ok (by omega) (by decide)) hF hz hS (q0 := 0) rfl rfl rfl hl.1 rfl (Nat.le_of_ble_eq_true rfl) dX9_rise_44 ⟨Nat.zero_le _, Nat.zero_le _⟩) hS (fun w2 H locs hw2 hS => ?_)
    subst hw2
    refine lv_iload_n hx hb dX9_rise_47 rfl (lv_at hl 3 rfl) ?_
    refine lv_iconst (v := 4) hx hb dX9_rise_48 (by decide) ?_
    refine lv_idiv hx hb dX9_rise_49 (by decide) ?_
    refine lv_istore (lv' := [(4, .int (w / 4)), (3, .int (nI 1)), (0, .ref (B 0)), (1, .int (nI j)), (2, .int w)]) hx hb dX9_rise_50 hl (by decide) rfl (fun ls hl => ?_)
    refine lv_iload_n hx hb dX9_rise_52 rfl (lv_at hl 1 rfl) ?_
    refine lv_iconst (v := 2) hx hb dX9_rise_53 (by decide) ?_
    refine lv_iconst (v := 4) hx hb dX9_rise_54 (by decide) ?_
    refine m_ci (m_runS (n := 3) (rest := []) ⟨hx, hb, hml, hown, hG⟩ (c_in l X _ (nI 1) 2 4 0) kw_521 kw_522 kw_20 kw_523 (by decide +kernel) (rl_ok (by omega) (by decide)) hF hz hS rfl hl.1 rfl (Nat.le_of_ble_eq_true rfl) dX9_rise_55 ⟨Nat.zero_le _, Nat.zero_le _⟩) hS (fun r_5 w3 H locs hw3 hS => ?_)
    obtain ⟨rfl, rfl⟩ := hw3
    refine lv_if_eq (tgt := 70) hx hb dX9_rise_58 (by decide) (fun c_6 => ?_) (fun c_6 => absurd (by decide) c_6)
    refine lv_iload hx hb dX9_rise_70 (lv_at hl 0 rfl) ?_
    refine lv_istore (lv' := [(4, .int (w / 4)), (3, .int (nI 1)), (0, .ref (B 0)), (1, .int (nI j)), (2, .int w)]) hx hb dX9_rise_72 hl (by decide) rfl (fun ls hl => ?_)
    refine lv_iload_n hx hb dX9_rise_74 rfl (lv_at hl 1 rfl) ?_
    refine lv_iconst (v := 4) hx hb dX9_rise_75 (by decide) ?_
    refine lv_icmp_ne (tgt := 86) hx hb dX9_rise_76 (by decide) (fun c_7 => ?_) (fun c_7 => absurd c_7 (by decide))
    refine lv_iload_n hx hb dX9_rise_86 rfl (lv_at hl 1 rfl) ?_
    refine lv_bipush (v := 6) hx hb dX9_rise_87 (by decide) ?_
    refine lv_icmp_ne (tgt := 102) hx hb dX9_rise_89 (by decide) (fun c_8 => ?_) (fun c_8 => absurd c_8 (by decide))
    refine lv_iload hx hb dX9_rise_102 (lv_at hl 0 rfl) ?_
    exact m_iret hx hb hr hlk hS ⟨by first | rfl | exact Int32.add_zero _ | (show _ = 2 * _; rw [Int32.add_zero]), rfl⟩ (Nat.le_refl 0) (Nat.le_refl 0) dX9_rise_104
  | 2, _, ek =>
    refine lv_aload_n hx hb dX9_rise_0 rfl (lv_at hl 0 rfl) ?_
    refine m_get (v := .ref (B 1)) hx hb hG hown hF hS (0) rfl rfl iG_9 1 (by decide) kw_472 (fun _ h9 => h9) rfl dX9_rise_1 ?_
    refine lv_iload_n hx hb dX9_rise_4 rfl (lv_at hl 1 rfl) ?_
    refine m_ialdv (v := nI 2) hx hb hF hS (1) rfl (j) rfl (hj) (by decide) (ek) dX9_rise_5 ?_
    refine lv_istore_n (lv' := [(3, .int (nI 2)), (0, .ref (B 0)), (1, .int (nI j)), (2, .int w)]) hx hb dX9_rise_6 rfl hl (by decide) rfl (fun ls hl => ?_)
    refine lv_iload_n hx hb dX9_rise_7 rfl (lv_at hl 0 rfl) ?_
    refine lv_iconst (v := 4) hx hb dX9_rise_8 (by decide) ?_
    refine lv_icmp_ne (tgt := 17) hx hb dX9_rise_9 (by decide) (fun c_1 => ?_) (fun c_1 => absurd c_1 (by decide))
    refine lv_iload_n hx hb dX9_rise_17 rfl (lv_at hl 0 rfl) ?_
    refine lv_iconst (v := 2) hx hb dX9_rise_18 (by decide) ?_
    refine lv_iconst (v := 4) hx hb dX9_rise_19 (by decide) ?_
    refine m_ci (m_runS (n := 3) (rest := []) ⟨hx, hb, hml, hown, hG⟩ (c_in l X _ (nI 2) 2 4 0) kw_521 kw_522 kw_20 kw_523 (by decide +kernel) (rl_ok (by omega) (by decide)) hF hz hS rfl hl.1 rfl (Nat.le_of_ble_eq_true rfl) dX9_rise_20 ⟨Nat.zero_le _, Nat.zero_le _⟩) hS (fun r_2 w1 H locs hw1 hS => ?_)
    obtain ⟨rfl, rfl⟩ := hw1
    refine lv_if_eq (tgt := 31) hx hb dX9_rise_23 (by decide) (fun c_3 => absurd c_3 (by decide)) (fun c_3 => ?_)
    refine lv_aload_n hx hb dX9_rise_26 rfl (lv_at hl 1 rfl) ?_
    refine lv_iconst (v := 2) hx hb dX9_rise_27 (by decide) ?_
    refine m_cv (m_runV (n := 1) (rest := []) ⟨hx, hb, hml, hown, hG⟩ (M_began l X B n wm dy tl g hs rest r t 2 0 (ht.le (by decide))) kw_540 kw_542 kw_9 kw_20 kw_543 (by decide +kernel) (rl_ok (by omega) (by decide)) hF hz hS (q0 := 0) rfl rfl rfl hl.1 rfl (Nat.le_of_ble_eq_true rfl) dX9_rise_28 ⟨Nat.zero_le _, Nat.zero_le _⟩) hS (fun w2 H locs hw2 hS => ?_)
    subst hw2
    refine lv_iload_n hx hb dX9_rise_31 rfl (lv_at hl 0 rfl) ?_
    refine lv_bipush (v := 6) hx hb dX9_rise_32 (by decide) ?_
    refine lv_icmp_ne (tgt := 42) hx hb dX9_rise_34 (by decide) (fun c_4 => ?_) (fun c_4 => absurd c_4 (by decide))
    refine lv_aload_n hx hb dX9_rise_42 rfl (lv_at hl 1 rfl) ?_
    refine lv_iconst (v := 1) hx hb dX9_rise_43 (by decide) ?_
    refine m_cv (m_runV (n := 1) (rest := []) ⟨hx, hb, hml, hown, hG⟩ (M_began l X B n wm dy tl g hs rest r (te r [2] t) 1 0 (ht.step (by decide))) kw_540 kw_542 kw_9 kw_20 kw_543 (by decide +kernel) (rl_ok (by omega) (by decide)) hF hz hS (q0 := 0) rfl rfl rfl hl.1 rfl (Nat.le_of_ble_eq_true rfl) dX9_rise_44 ⟨Nat.zero_le _, Nat.zero_le _⟩) hS (fun w3 H locs hw3 hS => ?_)
    subst hw3
    rw [te_te] at hS
    refine lv_iload_n hx hb dX9_rise_47 rfl (lv_at hl 3 rfl) ?_
    refine lv_iconst (v := 4) hx hb dX9_rise_48 (by decide) ?_
    refine lv_idiv hx hb dX9_rise_49 (by decide) ?_
    refine lv_istore (lv' := [(4, .int (w / 4)), (3, .int (nI 2)), (0, .ref (B 0)), (1, .int (nI j)), (2, .int w)]) hx hb dX9_rise_50 hl (by decide) rfl (fun ls hl => ?_)
    refine lv_iload_n hx hb dX9_rise_52 rfl (lv_at hl 1 rfl) ?_
    refine lv_iconst (v := 2) hx hb dX9_rise_53 (by decide) ?_
    refine lv_iconst (v := 4) hx hb dX9_rise_54 (by decide) ?_
    refine m_ci (m_runS (n := 3) (rest := []) ⟨hx, hb, hml, hown, hG⟩ (c_in l X _ (nI 2) 2 4 0) kw_521 kw_522 kw_20 kw_523 (by decide +kernel) (rl_ok (by omega) (by decide)) hF hz hS rfl hl.1 rfl (Nat.le_of_ble_eq_true rfl) dX9_rise_55 ⟨Nat.zero_le _, Nat.zero_le _⟩) hS (fun r_5 w4 H locs hw4 hS => ?_)
    obtain ⟨rfl, rfl⟩ := hw4
    refine lv_if_eq (tgt := 70) hx hb dX9_rise_58 (by decide) (fun c_6 => absurd c_6 (by decide)) (fun c_6 => ?_)
    refine lv_iload hx hb dX9_rise_61 (lv_at hl 0 rfl) ?_
    refine lv_iconst (v := 2) hx hb dX9_rise_63 (by decide) ?_
    refine lv_idiv hx hb dX9_rise_64 (by decide) ?_
    refine lv_iconst (v := 1) hx hb dX9_rise_65 (by decide) ?_
    refine lv_iadd hx hb dX9_rise_66 ?_
    refine lv_goto (tgt := 72) hx hb dX9_rise_67 (by decide) ?_
    refine lv_istore (lv' := [(4, .int (((w / 4) / 2) + 1)), (3, .int (nI 2)), (0, .ref (B 0)), (1, .int (nI j)), (2, .int w)]) hx hb dX9_rise_72 hl (by decide) rfl (fun ls hl => ?_)
    refine lv_iload_n hx hb dX9_rise_74 rfl (lv_at hl 1 rfl) ?_
    refine lv_iconst (v := 4) hx hb dX9_rise_75 (by decide) ?_
    refine lv_icmp_ne (tgt := 86) hx hb dX9_rise_76 (by decide) (fun c_7 => ?_) (fun c_7 => absurd c_7 (by decide))
    refine lv_iload_n hx hb dX9_rise_86 rfl (lv_at hl 1 rfl) ?_
    refine lv_bipush (v := 6) hx hb dX9_rise_87 (by decide) ?_
    refine lv_icmp_ne (tgt := 102) hx hb dX9_rise_89 (by decide) (fun c_8 => ?_) (fun c_8 => absurd c_8 (by decide))
    refine lv_iload hx hb dX9_rise_102 (lv_at hl 0 rfl) ?_
    exact m_iret hx hb hr hlk hS ⟨by first | rfl | exact Int32.add_zero _ | (show _ = 2 * _; rw [Int32.add_zero]), rfl⟩ (Nat.le_refl 0) (Nat.le_refl 0) dX9_rise_104
  | 3, _, ek =>
    refine lv_aload_n hx hb dX9_rise_0 rfl (lv_at hl 0 rfl) ?_
    refine m_get (v := .ref (B 1)) hx hb hG hown hF hS (0) rfl rfl iG_9 1 (by decide) kw_472 (fun _ h9 => h9) rfl dX9_rise_1 ?_
    refine lv_iload_n hx hb dX9_rise_4 rfl (lv_at hl 1 rfl) ?_
    refine m_ialdv (v := nI 3) hx hb hF hS (1) rfl (j) rfl (hj) (by decide) (ek) dX9_rise_5 ?_
    refine lv_istore_n (lv' := [(3, .int (nI 3)), (0, .ref (B 0)), (1, .int (nI j)), (2, .int w)]) hx hb dX9_rise_6 rfl hl (by decide) rfl (fun ls hl => ?_)
    refine lv_iload_n hx hb dX9_rise_7 rfl (lv_at hl 0 rfl) ?_
    refine lv_iconst (v := 4) hx hb dX9_rise_8 (by decide) ?_
    refine lv_icmp_ne (tgt := 17) hx hb dX9_rise_9 (by decide) (fun c_1 => ?_) (fun c_1 => absurd c_1 (by decide))
    refine lv_iload_n hx hb dX9_rise_17 rfl (lv_at hl 0 rfl) ?_
    refine lv_iconst (v := 2) hx hb dX9_rise_18 (by decide) ?_
    refine lv_iconst (v := 4) hx hb dX9_rise_19 (by decide) ?_
    refine m_ci (m_runS (n := 3) (rest := []) ⟨hx, hb, hml, hown, hG⟩ (c_in l X _ (nI 3) 2 4 0) kw_521 kw_522 kw_20 kw_523 (by decide +kernel) (rl_ok (by omega) (by decide)) hF hz hS rfl hl.1 rfl (Nat.le_of_ble_eq_true rfl) dX9_rise_20 ⟨Nat.zero_le _, Nat.zero_le _⟩) hS (fun r_2 w1 H locs hw1 hS => ?_)
    obtain ⟨rfl, rfl⟩ := hw1
    refine lv_if_eq (tgt := 31) hx hb dX9_rise_23 (by decide) (fun c_3 => absurd c_3 (by decide)) (fun c_3 => ?_)
    refine lv_aload_n hx hb dX9_rise_26 rfl (lv_at hl 1 rfl) ?_
    refine lv_iconst (v := 2) hx hb dX9_rise_27 (by decide) ?_
    refine m_cv (m_runV (n := 1) (rest := []) ⟨hx, hb, hml, hown, hG⟩ (M_began l X B n wm dy tl g hs rest r t 2 0 (ht.le (by decide))) kw_540 kw_542 kw_9 kw_20 kw_543 (by decide +kernel) (rl_ok (by omega) (by decide)) hF hz hS (q0 := 0) rfl rfl rfl hl.1 rfl (Nat.le_of_ble_eq_true rfl) dX9_rise_28 ⟨Nat.zero_le _, Nat.zero_le _⟩) hS (fun w2 H locs hw2 hS => ?_)
    subst hw2
    refine lv_iload_n hx hb dX9_rise_31 rfl (lv_at hl 0 rfl) ?_
    refine lv_bipush (v := 6) hx hb dX9_rise_32 (by decide) ?_
    refine lv_icmp_ne (tgt := 42) hx hb dX9_rise_34 (by decide) (fun c_4 => ?_) (fun c_4 => absurd c_4 (by decide))
    refine lv_aload_n hx hb dX9_rise_42 rfl (lv_at hl 1 rfl) ?_
    refine lv_iconst (v := 1) hx hb dX9_rise_43 (by decide) ?_
    refine m_cv (m_runV (n := 1) (rest := []) ⟨hx, hb, hml, hown, hG⟩ (M_began l X B n wm dy tl g hs rest r (te r [2] t) 1 0 (ht.step (by decide))) kw_540 kw_542 kw_9 kw_20 kw_543 (by decide +kernel) (rl_ok (by omega) (by decide)) hF hz hS (q0 := 0) rfl rfl rfl hl.1 rfl (Nat.le_of_ble_eq_true rfl) dX9_rise_44 ⟨Nat.zero_le _, Nat.zero_le _⟩) hS (fun w3 H locs hw3 hS => ?_)
    subst hw3
    rw [te_te] at hS
    refine lv_iload_n hx hb dX9_rise_47 rfl (lv_at hl 3 rfl) ?_
    refine lv_iconst (v := 4) hx hb dX9_rise_48 (by decide) ?_
    refine lv_idiv hx hb dX9_rise_49 (by decide) ?_
    refine lv_istore (lv' := [(4, .int (w / 4)), (3, .int (nI 3)), (0, .ref (B 0)), (1, .int (nI j)), (2, .int w)]) hx hb dX9_rise_50 hl (by decide) rfl (fun ls hl => ?_)
    refine lv_iload_n hx hb dX9_rise_52 rfl (lv_at hl 1 rfl) ?_
    refine lv_iconst (v := 2) hx hb dX9_rise_53 (by decide) ?_
    refine lv_iconst (v := 4) hx hb dX9_rise_54 (by decide) ?_
    refine m_ci (m_runS (n := 3) (rest := []) ⟨hx, hb, hml, hown, hG⟩ (c_in l X _ (nI 3) 2 4 0) kw_521 kw_522 kw_20 kw_523 (by decide +kernel) (rl_ok (by omega) (by decide)) hF hz hS rfl hl.1 rfl (Nat.le_of_ble_eq_true rfl) dX9_rise_55 ⟨Nat.zero_le _, Nat.zero_le _⟩) hS (fun r_5 w4 H locs hw4 hS => ?_)
    obtain ⟨rfl, rfl⟩ := hw4
    refine lv_if_eq (tgt := 70) hx hb dX9_rise_58 (by decide) (fun c_6 => absurd c_6 (by decide)) (fun c_6 => ?_)
    refine lv_iload hx hb dX9_rise_61 (lv_at hl 0 rfl) ?_
    refine lv_iconst (v := 2) hx hb dX9_rise_63 (by decide) ?_
    refine lv_idiv hx hb dX9_rise_64 (by decide) ?_
    refine lv_iconst (v := 1) hx hb dX9_rise_65 (by decide) ?_
    refine lv_iadd hx hb dX9_rise_66 ?_
    refine lv_goto (tgt := 72) hx hb dX9_rise_67 (by decide) ?_
    refine lv_istore (lv' := [(4, .int (((w / 4) / 2) + 1)), (3, .int (nI 3)), (0, .ref (B 0)), (1, .int (nI j)), (2, .int w)]) hx hb dX9_rise_72 hl (by decide) rfl (fun ls hl => ?_)
    refine lv_iload_n hx hb dX9_rise_74 rfl (lv_at hl 1 rfl) ?_
    refine lv_iconst (v := 4) hx hb dX9_rise_75 (by decide) ?_
    refine lv_icmp_ne (tgt := 86) hx hb dX9_rise_76 (by decide) (fun c_7 => ?_) (fun c_7 => absurd c_7 (by decide))
    refine lv_iload_n hx hb dX9_rise_86 rfl (lv_at hl 1 rfl) ?_
    refine lv_bipush (v := 6) hx hb dX9_rise_87 (by decide) ?_
    refine lv_icmp_ne (tgt := 102) hx hb dX9_rise_89 (by decide) (fun c_8 => ?_) (fun c_8 => absurd c_8 (by decide))
    refine lv_iload hx hb dX9_rise_102 (lv_at hl 0 rfl) ?_
    exact m_iret hx hb hr hlk hS ⟨by first | rfl | exact Int32.add_zero _ | (show _ = 2 * _; rw [Int32.add_zero]), rfl⟩ (Nat.le_refl 0) (Nat.le_refl 0) dX9_rise_104
  | 4, _, ek =>
    refine lv_aload_n hx hb dX9_rise_0 rfl (lv_at hl 0 rfl) ?_
    refine m_get (v := .ref (B 1)) hx hb hG hown hF hS (0) rfl rfl iG_9 1 (by decide) kw_472 (fun _ h9 => h9) rfl dX9_rise_1 ?_
    refine lv_iload_n hx hb dX9_rise_4 rfl (lv_at hl 1 rfl) ?_
    refine m_ialdv (v := nI 4) hx hb hF hS (1) rfl (j) rfl (hj) (by decide) (ek) dX9_rise_5 ?_
    refine lv_istore_n (lv' := [(3, .int (nI 4)), (0, .ref (B 0)), (1, .int (nI j)), (2, .int w)]) hx hb dX9_rise_6 rfl hl (by decide) rfl (fun ls hl => ?_)
    refine lv_iload_n hx hb dX9_rise_7 rfl (lv_at hl 0 rfl) ?_
    refine lv_iconst (v := 4) hx hb dX9_rise_8 (by decide) ?_
    refine lv_icmp_ne (tgt := 17) hx hb dX9_rise_9 (by decide) (fun c_1 => absurd (by decide) c_1) (fun c_1 => ?_)
    refine lv_aload_n hx hb dX9_rise_12 rfl (lv_at hl 1 rfl) ?_
    refine lv_iconst (v := 3) hx hb dX9_rise_13 (by decide) ?_
    refine m_cv (m_runV (n := 1) (rest := []) ⟨hx, hb, hml, hown, hG⟩ (M_began l X B n wm dy tl g hs rest r t 3 0 (ht.le (by decide))) kw_540 kw_542 kw_9 kw_20 kw_543 (by decide +kernel) (rl_ok (by omega) (by decide)) hF hz hS (q0 := 0) rfl rfl rfl hl.1 rfl (Nat.le_of_ble_eq_true rfl) dX9_rise_14 ⟨Nat.zero_le _, Nat.zero_le _⟩) hS (fun w1 H locs hw1 hS => ?_)
    subst hw1
    refine lv_iload_n hx hb dX9_rise_17 rfl (lv_at hl 0 rfl) ?_
    refine lv_iconst (v := 2) hx hb dX9_rise_18 (by decide) ?_
    refine lv_iconst (v := 4) hx hb dX9_rise_19 (by decide) ?_
    refine m_ci (m_runS (n := 3) (rest := []) ⟨hx, hb, hml, hown, hG⟩ (c_in l X _ (nI 4) 2 4 0) kw_521 kw_522 kw_20 kw_523 (by decide +kernel) (rl_ok (by omega) (by decide)) hF hz hS rfl hl.1 rfl (Nat.le_of_ble_eq_true rfl) dX9_rise_20 ⟨Nat.zero_le _, Nat.zero_le _⟩) hS (fun r_2 w2 H locs hw2 hS => ?_)
    obtain ⟨rfl, rfl⟩ := hw2
    refine lv_if_eq (tgt := 31) hx hb dX9_rise_23 (by decide) (fun c_3 => absurd c_3 (by decide)) (fun c_3 => ?_)
    refine lv_aload_n hx hb dX9_rise_26 rfl (lv_at hl 1 rfl) ?_
    refine lv_iconst (v := 2) hx hb dX9_rise_27 (by decide) ?_
    refine m_cv (m_runV (n := 1) (rest := []) ⟨hx, hb, hml, hown, hG⟩ (M_began l X B n wm dy tl g hs rest r (te r [3] t) 2 0 (ht.step (by decide))) kw_540 kw_542 kw_9 kw_20 kw_543 (by decide +kernel) (rl_ok (by omega) (by decide)) hF hz hS (q0 := 0) rfl rfl rfl hl.1 rfl (Nat.le_of_ble_eq_true rfl) dX9_rise_28 ⟨Nat.zero_le _, Nat.zero_le _⟩) hS (fun w3 H locs hw3 hS => ?_)
    subst hw3
    rw [te_te] at hS
    refine lv_iload_n hx hb dX9_rise_31 rfl (lv_at hl 0 rfl) ?_
    refine lv_bipush (v := 6) hx hb dX9_rise_32 (by decide) ?_
    refine lv_icmp_ne (tgt := 42) hx hb dX9_rise_34 (by decide) (fun c_4 => ?_) (fun c_4 => absurd c_4 (by decide))
    refine lv_aload_n hx hb dX9_rise_42 rfl (lv_at hl 1 rfl) ?_
    refine lv_iconst (v := 1) hx hb dX9_rise_43 (by decide) ?_
    refine m_cv (m_runV (n := 1) (rest := []) ⟨hx, hb, hml, hown, hG⟩ (M_began l X B n wm dy tl g hs rest r (te r [3, 2] t) 1 0 (ht.step (by decide))) kw_540 kw_542 kw_9 kw_20 kw_543 (by decide +kernel) (rl_ok (by omega) (by decide)) hF hz hS (q0 := 0) rfl rfl rfl hl.1 rfl (Nat.le_of_ble_eq_true rfl) dX9_rise_44 ⟨Nat.zero_le _, Nat.zero_le _⟩) hS (fun w4 H locs hw4 hS => ?_)
    subst hw4
    rw [te_te] at hS
    refine lv_iload_n hx hb dX9_rise_47 rfl (lv_at hl 3 rfl) ?_
    refine lv_iconst (v := 4) hx hb dX9_rise_48 (by decide) ?_
    refine lv_idiv hx hb dX9_rise_49 (by decide) ?_
    refine lv_istore (lv' := [(4, .int (w / 4)), (3, .int (nI 4)), (0, .ref (B 0)), (1, .int (nI j)), (2, .int w)]) hx hb dX9_rise_50 hl (by decide) rfl (fun ls hl => ?_)
    refine lv_iload_n hx hb dX9_rise_52 rfl (lv_at hl 1 rfl) ?_
    refine lv_iconst (v := 2) hx hb dX9_rise_53 (by decide) ?_
    refine lv_iconst (v := 4) hx hb dX9_rise_54 (by decide) ?_
    refine m_ci (m_runS (n := 3) (rest := []) ⟨hx, hb, hml, hown, hG⟩ (c_in l X _ (nI 4) 2 4 0) kw_521 kw_522 kw_20 kw_523 (by decide +kernel) (rl_ok (by omega) (by decide)) hF hz hS rfl hl.1 rfl (Nat.le_of_ble_eq_true rfl) dX9_rise_55 ⟨Nat.zero_le _, Nat.zero_le _⟩) hS (fun r_5 w5 H locs hw5 hS => ?_)
    obtain ⟨rfl, rfl⟩ := hw5
    refine lv_if_eq (tgt := 70) hx hb dX9_rise_58 (by decide) (fun c_6 => absurd c_6 (by decide)) (fun c_6 => ?_)
    refine lv_iload hx hb dX9_rise_61 (lv_at hl 0 rfl) ?_
    refine lv_iconst (v := 2) hx hb dX9_rise_63 (by decide) ?_
    refine lv_idiv hx hb dX9_rise_64 (by decide) ?_
    refine lv_iconst (v := 1) hx hb dX9_rise_65 (by decide) ?_
    refine lv_iadd hx hb dX9_rise_66 ?_
    refine lv_goto (tgt := 72) hx hb dX9_rise_67 (by decide) ?_
    refine lv_istore (lv' := [(4, .int (((w / 4) / 2) + 1)), (3, .int (nI 4)), (0, .ref (B 0)), (1, .int (nI j)), (2, .int w)]) hx hb dX9_rise_72 hl (by decide) rfl (fun ls hl => ?_)
    refine lv_iload_n hx hb dX9_rise_74 rfl (lv_at hl 1 rfl) ?_
    refine lv_iconst (v := 4) hx hb dX9_rise_75 (by decide) ?_
    refine lv_icmp_ne (tgt := 86) hx hb dX9_rise_76 (by decide) (fun c_7 => absurd (by decide) c_7) (fun c_7 => ?_)
    refine lv_iload hx hb dX9_rise_79 (lv_at hl 0 rfl) ?_
    refine lv_iconst (v := 1) hx hb dX9_rise_81 (by decide) ?_
    refine lv_isub hx hb dX9_rise_82 ?_
    refine lv_goto (tgt := 104) hx hb dX9_rise_83 (by decide) ?_
    exact m_iret hx hb hr hlk hS ⟨by first | rfl | exact Int32.add_zero _ | (show _ = 2 * _; rw [Int32.add_zero]), rfl⟩ (Nat.le_refl 0) (Nat.le_refl 0) dX9_rise_104
  | 5, _, ek =>
    refine lv_aload_n hx hb dX9_rise_0 rfl (lv_at hl 0 rfl) ?_
    refine m_get (v := .ref (B 1)) hx hb hG hown hF hS (0) rfl rfl iG_9 1 (by decide) kw_472 (fun _ h9 => h9) rfl dX9_rise_1 ?_
    refine lv_iload_n hx hb dX9_rise_4 rfl (lv_at hl 1 rfl) ?_
    refine m_ialdv (v := nI 5) hx hb hF hS (1) rfl (j) rfl (hj) (by decide) (ek) dX9_rise_5 ?_
    refine lv_istore_n (lv' := [(3, .int (nI 5)), (0, .ref (B 0)), (1, .int (nI j)), (2, .int w)]) hx hb dX9_rise_6 rfl hl (by decide) rfl (fun ls hl => ?_)
    refine lv_iload_n hx hb dX9_rise_7 rfl (lv_at hl 0 rfl) ?_
    refine lv_iconst (v := 4) hx hb dX9_rise_8 (by decide) ?_
    refine lv_icmp_ne (tgt := 17) hx hb dX9_rise_9 (by decide) (fun c_1 => ?_) (fun c_1 => absurd c_1 (by decide))
    refine lv_iload_n hx hb dX9_rise_17 rfl (lv_at hl 0 rfl) ?_
    refine lv_iconst (v := 2) hx hb dX9_rise_18 (by decide) ?_
    refine lv_iconst (v := 4) hx hb dX9_rise_19 (by decide) ?_
    refine m_ci (m_runS (n := 3) (rest := []) ⟨hx, hb, hml, hown, hG⟩ (c_in l X _ (nI 5) 2 4 0) kw_521 kw_522 kw_20 kw_523 (by decide +kernel) (rl_ok (by omega) (by decide)) hF hz hS rfl hl.1 rfl (Nat.le_of_ble_eq_true rfl) dX9_rise_20 ⟨Nat.zero_le _, Nat.zero_le _⟩) hS (fun r_2 w1 H locs hw1 hS => ?_)
    obtain ⟨rfl, rfl⟩ := hw1
    refine lv_if_eq (tgt := 31) hx hb dX9_rise_23 (by decide) (fun c_3 => ?_) (fun c_3 => absurd (by decide) c_3)
    refine lv_iload_n hx hb dX9_rise_31 rfl (lv_at hl 0 rfl) ?_
    refine lv_bipush (v := 6) hx hb dX9_rise_32 (by decide) ?_
    refine lv_icmp_ne (tgt := 42) hx hb dX9_rise_34 (by decide) (fun c_4 => ?_) (fun c_4 => absurd c_4 (by decide))
    refine lv_aload_n hx hb dX9_rise_42 rfl (lv_at hl 1 rfl) ?_
    refine lv_iconst (v := 1) hx hb dX9_rise_43 (by decide) ?_
    refine m_cv (m_runV (n := 1) (rest := []) ⟨hx, hb, hml, hown, hG⟩ (M_began l X B n wm dy tl g hs rest r t 1 0 (ht.le (by decide))) kw_540 kw_542 kw_9 kw_20 kw_543 (by decide +kernel) (rl_ok (by omega) (by decide)) hF hz hS (q0 := 0) rfl rfl rfl hl.1 rfl (Nat.le_of_ble_eq_true rfl) dX9_rise_44 ⟨Nat.zero_le _, Nat.zero_le _⟩) hS (fun w2 H locs hw2 hS => ?_)
    subst hw2
    refine lv_iload_n hx hb dX9_rise_47 rfl (lv_at hl 3 rfl) ?_
    refine lv_iconst (v := 4) hx hb dX9_rise_48 (by decide) ?_
    refine lv_idiv hx hb dX9_rise_49 (by decide) ?_
    refine lv_istore (lv' := [(4, .int (w / 4)), (3, .int (nI 5)), (0, .ref (B 0)), (1, .int (nI j)), (2, .int w)]) hx hb dX9_rise_50 hl (by decide) rfl (fun ls hl => ?_)
    refine lv_iload_n hx hb dX9_rise_52 rfl (lv_at hl 1 rfl) ?_
    refine lv_iconst (v := 2) hx hb dX9_rise_53 (by decide) ?_
    refine lv_iconst (v := 4) hx hb dX9_rise_54 (by decide) ?_
    refine m_ci (m_runS (n := 3) (rest := []) ⟨hx, hb, hml, hown, hG⟩ (c_in l X _ (nI 5) 2 4 0) kw_521 kw_522 kw_20 kw_523 (by decide +kernel) (rl_ok (by omega) (by decide)) hF hz hS rfl hl.1 rfl (Nat.le_of_ble_eq_true rfl) dX9_rise_55 ⟨Nat.zero_le _, Nat.zero_le _⟩) hS (fun r_5 w3 H locs hw3 hS => ?_)
    obtain ⟨rfl, rfl⟩ := hw3
    refine lv_if_eq (tgt := 70) hx hb dX9_rise_58 (by decide) (fun c_6 => ?_) (fun c_6 => absurd (by decide) c_6)
    refine lv_iload hx hb dX9_rise_70 (lv_at hl 0 rfl) ?_
    refine lv_istore (lv' := [(4, .int (w / 4)), (3, .int (nI 5)), (0, .ref (B 0)), (1, .int (nI j)), (2, .int w)]) hx hb dX9_rise_72 hl (by decide) rfl (fun ls hl => ?_)
    refine lv_iload_n hx hb dX9_rise_74 rfl (lv_at hl 1 rfl) ?_
    refine lv_iconst (v := 4) hx hb dX9_rise_75 (by decide) ?_
    refine lv_icmp_ne (tgt := 86) hx hb dX9_rise_76 (by decide) (fun c_7 => ?_) (fun c_7 => absurd c_7 (by decide))
    refine lv_iload_n hx hb dX9_rise_86 rfl (lv_at hl 1 rfl) ?_
    refine lv_bipush (v := 6) hx hb dX9_rise_87 (by decide) ?_
    refine lv_icmp_ne (tgt := 102) hx hb dX9_rise_89 (by decide) (fun c_8 => ?_) (fun c_8 => absurd c_8 (by decide))
    refine lv_iload hx hb dX9_rise_102 (lv_at hl 0 rfl) ?_
    exact m_iret hx hb hr hlk hS ⟨by first | rfl | exact Int32.add_zero _ | (show _ = 2 * _; rw [Int32.add_zero]), rfl⟩ (Nat.le_refl 0) (Nat.le_refl 0) dX9_rise_104
  | 6, _, ek =>
    refine lv_aload_n hx hb dX9_rise_0 rfl (lv_at hl 0 rfl) ?_
    refine m_get (v := .ref (B 1)) hx hb hG hown hF hS (0) rfl rfl iG_9 1 (by decide) kw_472 (fun _ h9 => h9) rfl dX9_rise_1 ?_
    refine lv_iload_n hx hb dX9_rise_4 rfl (lv_at hl 1 rfl) ?_
    refine m_ialdv (v := nI 6) hx hb hF hS (1) rfl (j) rfl (hj) (by decide) (ek) dX9_rise_5 ?_
    refine lv_istore_n (lv' := [(3, .int (nI 6)), (0, .ref (B 0)), (1, .int (nI j)), (2, .int w)]) hx hb dX9_rise_6 rfl hl (by decide) rfl (fun ls hl => ?_)
    refine lv_iload_n hx hb dX9_rise_7 rfl (lv_at hl 0 rfl) ?_
    refine lv_iconst (v := 4) hx hb dX9_rise_8 (by decide) ?_
    refine lv_icmp_ne (tgt := 17) hx hb dX9_rise_9 (by decide) (fun c_1 => ?_) (fun c_1 => absurd c_1 (by decide))
    refine lv_iload_n hx hb dX9_rise_17 rfl (lv_at hl 0 rfl) ?_
    refine lv_iconst (v := 2) hx hb dX9_rise_18 (by decide) ?_
    refine lv_iconst (v := 4) hx hb dX9_rise_19 (by decide) ?_
    refine m_ci (m_runS (n := 3) (rest := []) ⟨hx, hb, hml, hown, hG⟩ (c_in l X _ (nI 6) 2 4 0) kw_521 kw_522 kw_20 kw_523 (by decide +kernel) (rl_ok (by omega) (by decide)) hF hz hS rfl hl.1 rfl (Nat.le_of_ble_eq_true rfl) dX9_rise_20 ⟨Nat.zero_le _, Nat.zero_le _⟩) hS (fun r_2 w1 H locs hw1 hS => ?_)
    obtain ⟨rfl, rfl⟩ := hw1
    refine lv_if_eq (tgt := 31) hx hb dX9_rise_23 (by decide) (fun c_3 => ?_) (fun c_3 => absurd (by decide) c_3)
    refine lv_iload_n hx hb dX9_rise_31 rfl (lv_at hl 0 rfl) ?_
    refine lv_bipush (v := 6) hx hb dX9_rise_32 (by decide) ?_
    refine lv_icmp_ne (tgt := 42) hx hb dX9_rise_34 (by decide) (fun c_4 => absurd (by decide) c_4) (fun c_4 => ?_)
    refine lv_aload_n hx hb dX9_rise_37 rfl (lv_at hl 1 rfl) ?_
    refine lv_iconst (v := 4) hx hb dX9_rise_38 (by decide) ?_
    refine m_cv (m_runV (n := 1) (rest := []) ⟨hx, hb, hml, hown, hG⟩ (M_began l X B n wm dy tl g hs rest r t 4 0 (ht.le (by decide))) kw_540 kw_542 kw_9 kw_20 kw_543 (by decide +kernel) (rl_ok (by omega) (by decide)) hF hz hS (q0 := 0) rfl rfl rfl hl.1 rfl (Nat.le_of_ble_eq_true rfl) dX9_rise_39 ⟨Nat.zero_le _, Nat.zero_le _⟩) hS (fun w2 H locs hw2 hS => ?_)
    subst hw2
    refine lv_aload_n hx hb dX9_rise_42 rfl (lv_at hl 1 rfl) ?_
    refine lv_iconst (v := 1) hx hb dX9_rise_43 (by decide) ?_
    refine m_cv (m_runV (n := 1) (rest := []) ⟨hx, hb, hml, hown, hG⟩ (M_began l X B n wm dy tl g hs rest r (te r [4] t) 1 0 (ht.step (by decide))) kw_540 kw_542 kw_9 kw_20 kw_543 (by decide +kernel) (rl_ok (by omega) (by decide)) hF hz hS (q0 := 0) rfl rfl rfl hl.1 rfl (Nat.le_of_ble_eq_true rfl) dX9_rise_44 ⟨Nat.zero_le _, Nat.zero_le _⟩) hS (fun w3 H locs hw3 hS => ?_)
    subst hw3
    rw [te_te] at hS
    refine lv_iload_n hx hb dX9_rise_47 rfl (lv_at hl 3 rfl) ?_
    refine lv_iconst (v := 4) hx hb dX9_rise_48 (by decide) ?_
    refine lv_idiv hx hb dX9_rise_49 (by decide) ?_
    refine lv_istore (lv' := [(4, .int (w / 4)), (3, .int (nI 6)), (0, .ref (B 0)), (1, .int (nI j)), (2, .int w)]) hx hb dX9_rise_50 hl (by decide) rfl (fun ls hl => ?_)
    refine lv_iload_n hx hb dX9_rise_52 rfl (lv_at hl 1 rfl) ?_
    refine lv_iconst (v := 2) hx hb dX9_rise_53 (by decide) ?_
    refine lv_iconst (v := 4) hx hb dX9_rise_54 (by decide) ?_
    refine m_ci (m_runS (n := 3) (rest := []) ⟨hx, hb, hml, hown, hG⟩ (c_in l X _ (nI 6) 2 4 0) kw_521 kw_522 kw_20 kw_523 (by decide +kernel) (rl_ok (by omega) (by decide)) hF hz hS rfl hl.1 rfl (Nat.le_of_ble_eq_true rfl) dX9_rise_55 ⟨Nat.zero_le _, Nat.zero_le _⟩) hS (fun r_5 w4 H locs hw4 hS => ?_)
    obtain ⟨rfl, rfl⟩ := hw4
    refine lv_if_eq (tgt := 70) hx hb dX9_rise_58 (by decide) (fun c_6 => ?_) (fun c_6 => absurd (by decide) c_6)
    refine lv_iload hx hb dX9_rise_70 (lv_at hl 0 rfl) ?_
    refine lv_istore (lv' := [(4, .int (w / 4)), (3, .int (nI 6)), (0, .ref (B 0)), (1, .int (nI j)), (2, .int w)]) hx hb dX9_rise_72 hl (by decide) rfl (fun ls hl => ?_)
    refine lv_iload_n hx hb dX9_rise_74 rfl (lv_at hl 1 rfl) ?_
    refine lv_iconst (v := 4) hx hb dX9_rise_75 (by decide) ?_
    refine lv_icmp_ne (tgt := 86) hx hb dX9_rise_76 (by decide) (fun c_7 => ?_) (fun c_7 => absurd c_7 (by decide))
    refine lv_iload_n hx hb dX9_rise_86 rfl (lv_at hl 1 rfl) ?_
    refine lv_bipush (v := 6) hx hb dX9_rise_87 (by decide) ?_
    refine lv_icmp_ne (tgt := 102) hx hb dX9_rise_89 (by decide) (fun c_8 => absurd (by decide) c_8) (fun c_8 => ?_)
    refine lv_iload hx hb dX9_rise_92 (lv_at hl 0 rfl) ?_
    refine lv_iload_n hx hb dX9_rise_94 rfl (lv_at hl 4 rfl) ?_
    refine lv_bipush (v := 10) hx hb dX9_rise_95 (by decide) ?_
    refine lv_idiv hx hb dX9_rise_97 (by decide) ?_
    refine lv_iadd hx hb dX9_rise_98 ?_
    refine lv_goto (tgt := 104) hx hb dX9_rise_99 (by decide) ?_
    exact m_iret hx hb hr hlk hS ⟨by first | rfl | exact Int32.add_zero _ | (show _ = 2 * _; rw [Int32.add_zero]), rfl⟩ (Nat.le_refl 0) (Nat.le_refl 0) dX9_rise_104
set_option maxHeartbeats 4000000 in
set_option maxRecDepth 100000 in
theorem M_need (l : Launch) (X : Cx) (B : Nat → Nat) (n : Nat) (wm dy tl : Int32) (g : Nat → Rc) (hs : Nat → Int32) (rest : va_W) (r : Bool) (t : Tr) (j k : Nat) (f : Nat) (hj : j < 40) (ek : g j 0 = nI k) (hk : k < 7) (hf : 2 ≤ f) (ht : tR r 6 t) : cI l yX9_need cX9_need 4 (some .int) (rl f) X [.ref (B 0), .int (nI j)] (wM X B n wm dy tl g hs rest r t) (fun v w' => v = needV k (g j 1) ∧ w' = wM X B n wm dy tl g hs rest r (te r (needT k) t)) := by
  refine met_start (by decide) (Nat.le_of_ble_eq_true rfl) ?_
  intro p e s m below meth c ls fx hS hl
  obtain ⟨hx, hb, hr, hml, hown, hG, hlk, hF, hz, hnm⟩ := fx
  have hown : s.vm.findClass RX9 = some m.cls := hown
  have hl : lv_has ls 4 [(0, .ref (B 0)), (1, .int (nI j))] := hl
  match k, hk, ek with
  | 0, _, ek =>
    refine lv_aload_n hx hb dX9_need_0 rfl (lv_at hl 0 rfl) ?_
    refine m_get (v := .ref (B 1)) hx hb hG hown hF hS (0) rfl rfl iG_9 1 (by decide) kw_472 (fun _ h9 => h9) rfl dX9_need_1 ?_
    refine lv_iload_n hx hb dX9_need_4 rfl (lv_at hl 1 rfl) ?_
    refine m_ialdv (v := nI 0) hx hb hF hS (1) rfl (j) rfl (hj) (by decide) (ek) dX9_need_5 ?_
    refine lv_istore_n (lv' := [(2, .int (nI 0)), (0, .ref (B 0)), (1, .int (nI j))]) hx hb dX9_need_6 rfl hl (by decide) rfl (fun ls hl => ?_)
    refine lv_iload_n hx hb dX9_need_7 rfl (lv_at hl 0 rfl) ?_
    refine lv_iconst (v := 3) hx hb dX9_need_8 (by decide) ?_
    refine lv_iconst (v := 4) hx hb dX9_need_9 (by decide) ?_
    refine m_ci (m_runS (n := 3) (rest := []) ⟨hx, hb, hml, hown, hG⟩ (c_in l X _ (nI 0) 3 4 0) kw_521 kw_522 kw_20 kw_523 (by decide +kernel) (rl_ok (by omega) (by decide)) hF hz hS rfl hl.1 rfl (Nat.le_of_ble_eq_true rfl) dX9_need_10 ⟨Nat.zero_le _, Nat.zero_le _⟩) hS (fun r_1 w1 H locs hw1 hS => ?_)
    obtain ⟨rfl, rfl⟩ := hw1
    refine lv_if_eq (tgt := 22) hx hb dX9_need_13 (by decide) (fun c_2 => ?_) (fun c_2 => absurd (by decide) c_2)
    refine lv_iload_n hx hb dX9_need_22 rfl (lv_at hl 0 rfl) ?_
    refine lv_iconst (v := 1) hx hb dX9_need_23 (by decide) ?_
    refine lv_iconst (v := 4) hx hb dX9_need_24 (by decide) ?_
    refine m_ci (m_runS (n := 3) (rest := []) ⟨hx, hb, hml, hown, hG⟩ (c_in l X _ (nI 0) 1 4 0) kw_521 kw_522 kw_20 kw_523 (by decide +kernel) (rl_ok (by omega) (by decide)) hF hz hS rfl hl.1 rfl (Nat.le_of_ble_eq_true rfl) dX9_need_25 ⟨Nat.zero_le _, Nat.zero_le _⟩) hS (fun r_3 w2 H locs hw2 hS => ?_)
    obtain ⟨rfl, rfl⟩ := hw2
    refine lv_if_eq (tgt := 37) hx hb dX9_need_28 (by decide) (fun c_4 => ?_) (fun c_4 => absurd (by decide) c_4)
    refine lv_aload_n hx hb dX9_need_37 rfl (lv_at hl 1 rfl) ?_
    refine lv_bipush (v := 11) hx hb dX9_need_38 (by decide) ?_
    refine m_cv (m_runV (n := 1) (rest := []) ⟨hx, hb, hml, hown, hG⟩ (M_began l X B n wm dy tl g hs rest r t 11 0 (ht.le (by decide))) kw_540 kw_542 kw_9 kw_20 kw_543 (by decide +kernel) (rl_ok (by omega) (by decide)) hF hz hS (q0 := 0) rfl rfl rfl hl.1 rfl (Nat.le_of_ble_eq_true rfl) dX9_need_40 ⟨Nat.zero_le _, Nat.zero_le _⟩) hS (fun w3 H locs hw3 hS => ?_)
    subst hw3
    refine lv_bipush (v := 100) hx hb dX9_need_43 (by decide) ?_
    refine lv_aload_n hx hb dX9_need_45 rfl (lv_at hl 1 rfl) ?_
    refine m_get (v := .ref (B 2)) hx hb hG hown hF hS (0) rfl rfl iG_9 2 (by decide) kw_473 (fun _ h9 => h9) rfl dX9_need_46 ?_
    refine lv_iload_n hx hb dX9_need_49 rfl (lv_at hl 2 rfl) ?_
    refine m_ialdv (v := g j 1) hx hb hF hS (2) rfl (j) rfl (hj) (by decide) rfl dX9_need_50 ?_
    refine lv_bipush (v := 10) hx hb dX9_need_51 (by decide) ?_
    refine lv_idiv hx hb dX9_need_53 (by decide) ?_
    refine lv_iadd hx hb dX9_need_54 ?_
    refine lv_iload_n hx hb dX9_need_55 rfl (lv_at hl 0 rfl) ?_
    refine lv_iconst (v := 1) hx hb dX9_need_56 (by decide) ?_
    refine lv_iconst (v := 4) hx hb dX9_need_57 (by decide) ?_
    refine m_ci (m_runS (n := 3) (rest := [.int (100 + ((g j 1) / 10))]) ⟨hx, hb, hml, hown, hG⟩ (c_in l X _ (nI 0) 1 4 0) kw_521 kw_522 kw_20 kw_523 (by decide +kernel) (rl_ok (by omega) (by decide)) hF hz hS rfl hl.1 rfl (Nat.le_of_ble_eq_true rfl) dX9_need_58 ⟨Nat.zero_le _, Nat.zero_le _⟩) hS (fun r_5 w4 H locs hw4 hS => ?_)
    obtain ⟨rfl, rfl⟩ := hw4
    refine lv_if_eq (tgt := 69) hx hb dX9_need_61 (by decide) (fun c_6 => ?_) (fun c_6 => absurd (by decide) c_6)
    refine lv_iconst (v := 0) hx hb dX9_need_69 (by decide) ?_
    refine lv_iadd hx hb dX9_need_70 ?_
    refine lv_istore_n (lv' := [(3, .int ((100 + ((g j 1) / 10)) + 0)), (2, .int (nI 0)), (0, .ref (B 0)), (1, .int (nI j))]) hx hb dX9_need_71 rfl hl (by decide) rfl (fun ls hl => ?_)
    refine lv_iload_n hx hb dX9_need_72 rfl (lv_at hl 1 rfl) ?_
    refine lv_iconst (v := 3) hx hb dX9_need_73 (by decide) ?_
    refine lv_iconst (v := 4) hx hb dX9_need_74 (by decide) ?_
    refine m_ci (m_runS (n := 3) (rest := []) ⟨hx, hb, hml, hown, hG⟩ (c_in l X _ (nI 0) 3 4 0) kw_521 kw_522 kw_20 kw_523 (by decide +kernel) (rl_ok (by omega) (by decide)) hF hz hS rfl hl.1 rfl (Nat.le_of_ble_eq_true rfl) dX9_need_75 ⟨Nat.zero_le _, Nat.zero_le _⟩) hS (fun r_7 w5 H locs hw5 hS => ?_)
    obtain ⟨rfl, rfl⟩ := hw5
    refine lv_if_eq (tgt := 93) hx hb dX9_need_78 (by decide) (fun c_8 => ?_) (fun c_8 => absurd (by decide) c_8)
    refine lv_iload_n hx hb dX9_need_93 rfl (lv_at hl 0 rfl) ?_
    exact m_iret hx hb hr hlk hS ⟨by first | rfl | exact Int32.add_zero _ | (show _ = 2 * _; rw [Int32.add_zero]), rfl⟩ (Nat.le_refl 0) (Nat.le_refl 0) dX9_need_94
  | 1, _, ek =>
    refine lv_aload_n hx hb dX9_need_0 rfl (lv_at hl 0 rfl) ?_
    refine m_get (v := .ref (B 1)) hx hb hG hown hF hS (0) rfl rfl iG_9 1 (by decide) kw_472 (fun _ h9 => h9) rfl dX9_need_1 ?_
    refine lv_iload_n hx hb dX9_need_4 rfl (lv_at hl 1 rfl) ?_
    refine m_ialdv (v := nI 1) hx hb hF hS (1) rfl (j) rfl (hj) (by decide) (ek) dX9_need_5 ?_
    refine lv_istore_n (lv' := [(2, .int (nI 1)), (0, .ref (B 0)), (1, .int (nI j))]) hx hb dX9_need_6 rfl hl (by decide) rfl (fun ls hl => ?_)
    refine lv_iload_n hx hb dX9_need_7 rfl (lv_at hl 0 rfl) ?_
    refine lv_iconst (v := 3) hx hb dX9_need_8 (by decide) ?_
    refine lv_iconst (v := 4) hx hb dX9_need_9 (by decide) ?_
    refine m_ci (m_runS (n := 3) (rest := []) ⟨hx, hb, hml, hown, hG⟩ (c_in l X _ (nI 1) 3 4 0) kw_521 kw_522 kw_20 kw_523 (by decide +kernel) (rl_ok (by omega) (by decide)) hF hz hS rfl hl.1 rfl (Nat.le_of_ble_eq_true rfl) dX9_need_10 ⟨Nat.zero_le _, Nat.zero_le _⟩) hS (fun r_1 w1 H locs hw1 hS => ?_)
    obtain ⟨rfl, rfl⟩ := hw1
    refine lv_if_eq (tgt := 22) hx hb dX9_need_13 (by decide) (fun c_2 => ?_) (fun c_2 => absurd (by decide) c_2)
    refine lv_iload_n hx hb dX9_need_22 rfl (lv_at hl 0 rfl) ?_
    refine lv_iconst (v := 1) hx hb dX9_need_23 (by decide) ?_
    refine lv_iconst (v := 4) hx hb dX9_need_24 (by decide) ?_
    refine m_ci (m_runS (n := 3) (rest := []) ⟨hx, hb, hml, hown, hG⟩ (c_in l X _ (nI 1) 1 4 0) kw_521 kw_522 kw_20 kw_523 (by decide +kernel) (rl_ok (by omega) (by decide)) hF hz hS rfl hl.1 rfl (Nat.le_of_ble_eq_true rfl) dX9_need_25 ⟨Nat.zero_le _, Nat.zero_le _⟩) hS (fun r_3 w2 H locs hw2 hS => ?_)
    obtain ⟨rfl, rfl⟩ := hw2
    refine lv_if_eq (tgt := 37) hx hb dX9_need_28 (by decide) (fun c_4 => absurd c_4 (by decide)) (fun c_4 => ?_)
    refine lv_aload_n hx hb dX9_need_31 rfl (lv_at hl 1 rfl) ?_
    refine lv_bipush (v := 12) hx hb dX9_need_32 (by decide) ?_
    refine m_cv (m_runV (n := 1) (rest := []) ⟨hx, hb, hml, hown, hG⟩ (M_began l X B n wm dy tl g hs rest r t 12 0 (ht.le (by decide))) kw_540 kw_542 kw_9 kw_20 kw_543 (by decide +kernel) (rl_ok (by omega) (by decide)) hF hz hS (q0 := 0) rfl rfl rfl hl.1 rfl (Nat.le_of_ble_eq_true rfl) dX9_need_34 ⟨Nat.zero_le _, Nat.zero_le _⟩) hS (fun w3 H locs hw3 hS => ?_)
    subst hw3
    refine lv_aload_n hx hb dX9_need_37 rfl (lv_at hl 1 rfl) ?_
    refine lv_bipush (v := 11) hx hb dX9_need_38 (by decide) ?_
    refine m_cv (m_runV (n := 1) (rest := []) ⟨hx, hb, hml, hown, hG⟩ (M_began l X B n wm dy tl g hs rest r (te r [12] t) 11 0 (ht.step (by decide))) kw_540 kw_542 kw_9 kw_20 kw_543 (by decide +kernel) (rl_ok (by omega) (by decide)) hF hz hS (q0 := 0) rfl rfl rfl hl.1 rfl (Nat.le_of_ble_eq_true rfl) dX9_need_40 ⟨Nat.zero_le _, Nat.zero_le _⟩) hS (fun w4 H locs hw4 hS => ?_)
    subst hw4
    rw [te_te] at hS
    refine lv_bipush (v := 100) hx hb dX9_need_43 (by decide) ?_
    refine lv_aload_n hx hb dX9_need_45 rfl (lv_at hl 1 rfl) ?_
    refine m_get (v := .ref (B 2)) hx hb hG hown hF hS (0) rfl rfl iG_9 2 (by decide) kw_473 (fun _ h9 => h9) rfl dX9_need_46 ?_
    refine lv_iload_n hx hb dX9_need_49 rfl (lv_at hl 2 rfl) ?_
    refine m_ialdv (v := g j 1) hx hb hF hS (2) rfl (j) rfl (hj) (by decide) rfl dX9_need_50 ?_
    refine lv_bipush (v := 10) hx hb dX9_need_51 (by decide) ?_
    refine lv_idiv hx hb dX9_need_53 (by decide) ?_
    refine lv_iadd hx hb dX9_need_54 ?_
    refine lv_iload_n hx hb dX9_need_55 rfl (lv_at hl 0 rfl) ?_
    refine lv_iconst (v := 1) hx hb dX9_need_56 (by decide) ?_
    refine lv_iconst (v := 4) hx hb dX9_need_57 (by decide) ?_
    refine m_ci (m_runS (n := 3) (rest := [.int (100 + ((g j 1) / 10))]) ⟨hx, hb, hml, hown, hG⟩ (c_in l X _ (nI 1) 1 4 0) kw_521 kw_522 kw_20 kw_523 (by decide +kernel) (rl_ok (by omega) (by decide)) hF hz hS rfl hl.1 rfl (Nat.le_of_ble_eq_true rfl) dX9_need_58 ⟨Nat.zero_le _, Nat.zero_le _⟩) hS (fun r_5 w5 H locs hw5 hS => ?_)
    obtain ⟨rfl, rfl⟩ := hw5
    refine lv_if_eq (tgt := 69) hx hb dX9_need_61 (by decide) (fun c_6 => absurd c_6 (by decide)) (fun c_6 => ?_)
    refine lv_bipush (v := 50) hx hb dX9_need_64 (by decide) ?_
    refine lv_goto (tgt := 70) hx hb dX9_need_66 (by decide) ?_
    refine lv_iadd hx hb dX9_need_70 ?_
    refine lv_istore_n (lv' := [(3, .int ((100 + ((g j 1) / 10)) + 50)), (2, .int (nI 1)), (0, .ref (B 0)), (1, .int (nI j))]) hx hb dX9_need_71 rfl hl (by decide) rfl (fun ls hl => ?_)
    refine lv_iload_n hx hb dX9_need_72 rfl (lv_at hl 1 rfl) ?_
    refine lv_iconst (v := 3) hx hb dX9_need_73 (by decide) ?_
    refine lv_iconst (v := 4) hx hb dX9_need_74 (by decide) ?_
    refine m_ci (m_runS (n := 3) (rest := []) ⟨hx, hb, hml, hown, hG⟩ (c_in l X _ (nI 1) 3 4 0) kw_521 kw_522 kw_20 kw_523 (by decide +kernel) (rl_ok (by omega) (by decide)) hF hz hS rfl hl.1 rfl (Nat.le_of_ble_eq_true rfl) dX9_need_75 ⟨Nat.zero_le _, Nat.zero_le _⟩) hS (fun r_7 w6 H locs hw6 hS => ?_)
    obtain ⟨rfl, rfl⟩ := hw6
    refine lv_if_eq (tgt := 93) hx hb dX9_need_78 (by decide) (fun c_8 => ?_) (fun c_8 => absurd (by decide) c_8)
    refine lv_iload_n hx hb dX9_need_93 rfl (lv_at hl 0 rfl) ?_
    exact m_iret hx hb hr hlk hS ⟨by first | rfl | exact Int32.add_zero _ | (show _ = 2 * _; rw [Int32.add_zero]), rfl⟩ (Nat.le_refl 0) (Nat.le_refl 0) dX9_need_94
  | 2, _, ek =>
    refine lv_aload_n hx hb dX9_need_0 rfl (lv_at hl 0 rfl) ?_
    refine m_get (v := .ref (B 1)) hx hb hG hown hF hS (0) rfl rfl iG_9 1 (by decide) kw_472 (fun _ h9 => h9) rfl dX9_need_1 ?_
    refine lv_iload_n hx hb dX9_need_4 rfl (lv_at hl 1 rfl) ?_
    refine m_ialdv (v := nI 2) hx hb hF hS (1) rfl (j) rfl (hj) (by decide) (ek) dX9_need_5 ?_
    refine lv_istore_n (lv' := [(2, .int (nI 2)), (0, .ref (B 0)), (1, .int (nI j))]) hx hb dX9_need_6 rfl hl (by decide) rfl (fun ls hl => ?_)
    refine lv_iload_n hx hb dX9_need_7 rfl (lv_at hl 0 rfl) ?_
    refine lv_iconst (v := 3) hx hb dX9_need_8 (by decide) ?_
    refine lv_iconst (v := 4) hx hb dX9_need_9 (by decide) ?_
    refine m_ci (m_runS (n := 3) (rest := []) ⟨hx, hb, hml, hown, hG⟩ (c_in l X _ (nI 2) 3 4 0) kw_521 kw_522 kw_20 kw_523 (by decide +kernel) (rl_ok (by omega) (by decide)) hF hz hS rfl hl.1 rfl (Nat.le_of_ble_eq_true rfl) dX9_need_10 ⟨Nat.zero_le _, Nat.zero_le _⟩) hS (fun r_1 w1 H locs hw1 hS => ?_)
    obtain ⟨rfl, rfl⟩ := hw1
    refine lv_if_eq (tgt := 22) hx hb dX9_need_13 (by decide) (fun c_2 => ?_) (fun c_2 => absurd (by decide) c_2)
    refine lv_iload_n hx hb dX9_need_22 rfl (lv_at hl 0 rfl) ?_
    refine lv_iconst (v := 1) hx hb dX9_need_23 (by decide) ?_
    refine lv_iconst (v := 4) hx hb dX9_need_24 (by decide) ?_
    refine m_ci (m_runS (n := 3) (rest := []) ⟨hx, hb, hml, hown, hG⟩ (c_in l X _ (nI 2) 1 4 0) kw_521 kw_522 kw_20 kw_523 (by decide +kernel) (rl_ok (by omega) (by decide)) hF hz hS rfl hl.1 rfl (Nat.le_of_ble_eq_true rfl) dX9_need_25 ⟨Nat.zero_le _, Nat.zero_le _⟩) hS (fun r_3 w2 H locs hw2 hS => ?_)
    obtain ⟨rfl, rfl⟩ := hw2
    refine lv_if_eq (tgt := 37) hx hb dX9_need_28 (by decide) (fun c_4 => absurd c_4 (by decide)) (fun c_4 => ?_)
    refine lv_aload_n hx hb dX9_need_31 rfl (lv_at hl 1 rfl) ?_
    refine lv_bipush (v := 12) hx hb dX9_need_32 (by decide) ?_
    refine m_cv (m_runV (n := 1) (rest := []) ⟨hx, hb, hml, hown, hG⟩ (M_began l X B n wm dy tl g hs rest r t 12 0 (ht.le (by decide))) kw_540 kw_542 kw_9 kw_20 kw_543 (by decide +kernel) (rl_ok (by omega) (by decide)) hF hz hS (q0 := 0) rfl rfl rfl hl.1 rfl (Nat.le_of_ble_eq_true rfl) dX9_need_34 ⟨Nat.zero_le _, Nat.zero_le _⟩) hS (fun w3 H locs hw3 hS => ?_)
    subst hw3
    refine lv_aload_n hx hb dX9_need_37 rfl (lv_at hl 1 rfl) ?_
    refine lv_bipush (v := 11) hx hb dX9_need_38 (by decide) ?_
    refine m_cv (m_runV (n := 1) (rest := []) ⟨hx, hb, hml, hown, hG⟩ (M_began l X B n wm dy tl g hs rest r (te r [12] t) 11 0 (ht.step (by decide))) kw_540 kw_542 kw_9 kw_20 kw_543 (by decide +kernel) (rl_ok (by omega) (by decide)) hF hz hS (q0 := 0) rfl rfl rfl hl.1 rfl (Nat.le_of_ble_eq_true rfl) dX9_need_40 ⟨Nat.zero_le _, Nat.zero_le _⟩) hS (fun w4 H locs hw4 hS => ?_)
    subst hw4
    rw [te_te] at hS
    refine lv_bipush (v := 100) hx hb dX9_need_43 (by decide) ?_
    refine lv_aload_n hx hb dX9_need_45 rfl (lv_at hl 1 rfl) ?_
    refine m_get (v := .ref (B 2)) hx hb hG hown hF hS (0) rfl rfl iG_9 2 (by decide) kw_473 (fun _ h9 => h9) rfl dX9_need_46 ?_
    refine lv_iload_n hx hb dX9_need_49 rfl (lv_at hl 2 rfl) ?_
    refine m_ialdv (v := g j 1) hx hb hF hS (2) rfl (j) rfl (hj) (by decide) rfl dX9_need_50 ?_
    refine lv_bipush (v := 10) hx hb dX9_need_51 (by decide) ?_
    refine lv_idiv hx hb dX9_need_53 (by decide) ?_
    refine lv_iadd hx hb dX9_need_54 ?_
    refine lv_iload_n hx hb dX9_need_55 rfl (lv_at hl 0 rfl) ?_
    refine lv_iconst (v := 1) hx hb dX9_need_56 (by decide) ?_
    refine lv_iconst (v := 4) hx hb dX9_need_57 (by decide) ?_
    refine m_ci (m_runS (n := 3) (rest := [.int (100 + ((g j 1) / 10))]) ⟨hx, hb, hml, hown, hG⟩ (c_in l X _ (nI 2) 1 4 0) kw_521 kw_522 kw_20 kw_523 (by decide +kernel) (rl_ok (by omega) (by decide)) hF hz hS rfl hl.1 rfl (Nat.le_of_ble_eq_true rfl) dX9_need_58 ⟨Nat.zero_le _, Nat.zero_le _⟩) hS (fun r_5 w5 H locs hw5 hS => ?_)
    obtain ⟨rfl, rfl⟩ := hw5
    refine lv_if_eq (tgt := 69) hx hb dX9_need_61 (by decide) (fun c_6 => absurd c_6 (by decide)) (fun c_6 => ?_)
    refine lv_bipush (v := 50) hx hb dX9_need_64 (by decide) ?_
    refine lv_goto (tgt := 70) hx hb dX9_need_66 (by decide) ?_
    refine lv_iadd hx hb dX9_need_70 ?_
    refine lv_istore_n (lv' := [(3, .int ((100 + ((g j 1) / 10)) + 50)), (2, .int (nI 2)), (0, .ref (B 0)), (1, .int (nI j))]) hx hb dX9_need_71 rfl hl (by decide) rfl (fun ls hl => ?_)
    refine lv_iload_n hx hb dX9_need_72 rfl (lv_at hl 1 rfl) ?_
    refine lv_iconst (v := 3) hx hb dX9_need_73 (by decide) ?_
    refine lv_iconst (v := 4) hx hb dX9_need_74 (by decide) ?_
    refine m_ci (m_runS (n := 3) (rest := []) ⟨hx, hb, hml, hown, hG⟩ (c_in l X _ (nI 2) 3 4 0) kw_521 kw_522 kw_20 kw_523 (by decide +kernel) (rl_ok (by omega) (by decide)) hF hz hS rfl hl.1 rfl (Nat.le_of_ble_eq_true rfl) dX9_need_75 ⟨Nat.zero_le _, Nat.zero_le _⟩) hS (fun r_7 w6 H locs hw6 hS => ?_)
    obtain ⟨rfl, rfl⟩ := hw6
    refine lv_if_eq (tgt := 93) hx hb dX9_need_78 (by decide) (fun c_8 => ?_) (fun c_8 => absurd (by decide) c_8)
    refine lv_iload_n hx hb dX9_need_93 rfl (lv_at hl 0 rfl) ?_
    exact m_iret hx hb hr hlk hS ⟨by first | rfl | exact Int32.add_zero _ | (show _ = 2 * _; rw [Int32.add_zero]), rfl⟩ (Nat.le_refl 0) (Nat.le_refl 0) dX9_need_94
  | 3, _, ek =>
    refine lv_aload_n hx hb dX9_need_0 rfl (lv_at hl 0 rfl) ?_
    refine m_get (v := .ref (B 1)) hx hb hG hown hF hS (0) rfl rfl iG_9 1 (by decide) kw_472 (fun _ h9 => h9) rfl dX9_need_1 ?_
    refine lv_iload_n hx hb dX9_need_4 rfl (lv_at hl 1 rfl) ?_
    refine m_ialdv (v := nI 3) hx hb hF hS (1) rfl (j) rfl (hj) (by decide) (ek) dX9_need_5 ?_
    refine lv_istore_n (lv' := [(2, .int (nI 3)), (0, .ref (B 0)), (1, .int (nI j))]) hx hb dX9_need_6 rfl hl (by decide) rfl (fun ls hl => ?_)
    refine lv_iload_n hx hb dX9_need_7 rfl (lv_at hl 0 rfl) ?_
    refine lv_iconst (v := 3) hx hb dX9_need_8 (by decide) ?_
    refine lv_iconst (v := 4) hx hb dX9_need_9 (by decide) ?_
    refine m_ci (m_runS (n := 3) (rest := []) ⟨hx, hb, hml, hown, hG⟩ (c_in l X _ (nI 3) 3 4 0) kw_521 kw_522 kw_20 kw_523 (by decide +kernel) (rl_ok (by omega) (by decide)) hF hz hS rfl hl.1 rfl (Nat.le_of_ble_eq_true rfl) dX9_need_10 ⟨Nat.zero_le _, Nat.zero_le _⟩) hS (fun r_1 w1 H locs hw1 hS => ?_)
    obtain ⟨rfl, rfl⟩ := hw1
    refine lv_if_eq (tgt := 22) hx hb dX9_need_13 (by decide) (fun c_2 => absurd c_2 (by decide)) (fun c_2 => ?_)
    refine lv_aload_n hx hb dX9_need_16 rfl (lv_at hl 1 rfl) ?_
    refine lv_bipush (v := 13) hx hb dX9_need_17 (by decide) ?_
    refine m_cv (m_runV (n := 1) (rest := []) ⟨hx, hb, hml, hown, hG⟩ (M_began l X B n wm dy tl g hs rest r t 13 0 (ht.le (by decide))) kw_540 kw_542 kw_9 kw_20 kw_543 (by decide +kernel) (rl_ok (by omega) (by decide)) hF hz hS (q0 := 0) rfl rfl rfl hl.1 rfl (Nat.le_of_ble_eq_true rfl) dX9_need_19 ⟨Nat.zero_le _, Nat.zero_le _⟩) hS (fun w2 H locs hw2 hS => ?_)
    subst hw2
    refine lv_iload_n hx hb dX9_need_22 rfl (lv_at hl 0 rfl) ?_
    refine lv_iconst (v := 1) hx hb dX9_need_23 (by decide) ?_
    refine lv_iconst (v := 4) hx hb dX9_need_24 (by decide) ?_
    refine m_ci (m_runS (n := 3) (rest := []) ⟨hx, hb, hml, hown, hG⟩ (c_in l X _ (nI 3) 1 4 0) kw_521 kw_522 kw_20 kw_523 (by decide +kernel) (rl_ok (by omega) (by decide)) hF hz hS rfl hl.1 rfl (Nat.le_of_ble_eq_true rfl) dX9_need_25 ⟨Nat.zero_le _, Nat.zero_le _⟩) hS (fun r_3 w3 H locs hw3 hS => ?_)
    obtain ⟨rfl, rfl⟩ := hw3
    refine lv_if_eq (tgt := 37) hx hb dX9_need_28 (by decide) (fun c_4 => absurd c_4 (by decide)) (fun c_4 => ?_)
    refine lv_aload_n hx hb dX9_need_31 rfl (lv_at hl 1 rfl) ?_
    refine lv_bipush (v := 12) hx hb dX9_need_32 (by decide) ?_
    refine m_cv (m_runV (n := 1) (rest := []) ⟨hx, hb, hml, hown, hG⟩ (M_began l X B n wm dy tl g hs rest r (te r [13] t) 12 0 (ht.step (by decide))) kw_540 kw_542 kw_9 kw_20 kw_543 (by decide +kernel) (rl_ok (by omega) (by decide)) hF hz hS (q0 := 0) rfl rfl rfl hl.1 rfl (Nat.le_of_ble_eq_true rfl) dX9_need_34 ⟨Nat.zero_le _, Nat.zero_le _⟩) hS (fun w4 H locs hw4 hS => ?_)
    subst hw4
    rw [te_te] at hS
    refine lv_aload_n hx hb dX9_need_37 rfl (lv_at hl 1 rfl) ?_
    refine lv_bipush (v := 11) hx hb dX9_need_38 (by decide) ?_
    refine m_cv (m_runV (n := 1) (rest := []) ⟨hx, hb, hml, hown, hG⟩ (M_began l X B n wm dy tl g hs rest r (te r [13, 12] t) 11 0 (ht.step (by decide))) kw_540 kw_542 kw_9 kw_20 kw_543 (by decide +kernel) (rl_ok (by omega) (by decide)) hF hz hS (q0 := 0) rfl rfl rfl hl.1 rfl (Nat.le_of_ble_eq_true rfl) dX9_need_40 ⟨Nat.zero_le _, Nat.zero_le _⟩) hS (fun w5 H locs hw5 hS => ?_)
    subst hw5
    rw [te_te] at hS
    refine lv_bipush (v := 100) hx hb dX9_need_43 (by decide) ?_
    refine lv_aload_n hx hb dX9_need_45 rfl (lv_at hl 1 rfl) ?_
    refine m_get (v := .ref (B 2)) hx hb hG hown hF hS (0) rfl rfl iG_9 2 (by decide) kw_473 (fun _ h9 => h9) rfl dX9_need_46 ?_
    refine lv_iload_n hx hb dX9_need_49 rfl (lv_at hl 2 rfl) ?_
    refine m_ialdv (v := g j 1) hx hb hF hS (2) rfl (j) rfl (hj) (by decide) rfl dX9_need_50 ?_
    refine lv_bipush (v := 10) hx hb dX9_need_51 (by decide) ?_
    refine lv_idiv hx hb dX9_need_53 (by decide) ?_
    refine lv_iadd hx hb dX9_need_54 ?_
    refine lv_iload_n hx hb dX9_need_55 rfl (lv_at hl 0 rfl) ?_
    refine lv_iconst (v := 1) hx hb dX9_need_56 (by decide) ?_
    refine lv_iconst (v := 4) hx hb dX9_need_57 (by decide) ?_
    refine m_ci (m_runS (n := 3) (rest := [.int (100 + ((g j 1) / 10))]) ⟨hx, hb, hml, hown, hG⟩ (c_in l X _ (nI 3) 1 4 0) kw_521 kw_522 kw_20 kw_523 (by decide +kernel) (rl_ok (by omega) (by decide)) hF hz hS rfl hl.1 rfl (Nat.le_of_ble_eq_true rfl) dX9_need_58 ⟨Nat.zero_le _, Nat.zero_le _⟩) hS (fun r_5 w6 H locs hw6 hS => ?_)
    obtain ⟨rfl, rfl⟩ := hw6
    refine lv_if_eq (tgt := 69) hx hb dX9_need_61 (by decide) (fun c_6 => absurd c_6 (by decide)) (fun c_6 => ?_)
    refine lv_bipush (v := 50) hx hb dX9_need_64 (by decide) ?_
    refine lv_goto (tgt := 70) hx hb dX9_need_66 (by decide) ?_
    refine lv_iadd hx hb dX9_need_70 ?_
    refine lv_istore_n (lv' := [(3, .int ((100 + ((g j 1) / 10)) + 50)), (2, .int (nI 3)), (0, .ref (B 0)), (1, .int (nI j))]) hx hb dX9_need_71 rfl hl (by decide) rfl (fun ls hl => ?_)
    refine lv_iload_n hx hb dX9_need_72 rfl (lv_at hl 1 rfl) ?_
    refine lv_iconst (v := 3) hx hb dX9_need_73 (by decide) ?_
    refine lv_iconst (v := 4) hx hb dX9_need_74 (by decide) ?_
    refine m_ci (m_runS (n := 3) (rest := []) ⟨hx, hb, hml, hown, hG⟩ (c_in l X _ (nI 3) 3 4 0) kw_521 kw_522 kw_20 kw_523 (by decide +kernel) (rl_ok (by omega) (by decide)) hF hz hS rfl hl.1 rfl (Nat.le_of_ble_eq_true rfl) dX9_need_75 ⟨Nat.zero_le _, Nat.zero_le _⟩) hS (fun r_7 w7 H locs hw7 hS => ?_)
    obtain ⟨rfl, rfl⟩ := hw7
    refine lv_if_eq (tgt := 93) hx hb dX9_need_78 (by decide) (fun c_8 => absurd c_8 (by decide)) (fun c_8 => ?_)
    refine lv_iload_n hx hb dX9_need_81 rfl (lv_at hl 0 rfl) ?_
    refine lv_aload_n hx hb dX9_need_82 rfl (lv_at hl 2 rfl) ?_
    refine lv_iload_n hx hb dX9_need_83 rfl (lv_at hl 3 rfl) ?_
    refine lv_bipush (v := 20) hx hb dX9_need_84 (by decide) ?_
    refine m_ci (m_runV (n := 2) (rest := [.int ((100 + ((g j 1) / 10)) + 50)]) ⟨hx, hb, hml, hown, hG⟩ (M_rise l X B n wm dy tl g hs rest r (te r [13, 12, 11] t) j 3 20 1 hj ek (by decide) (by decide) (ht.step (by decide))) kw_536 kw_538 kw_8 kw_20 kw_539 (by decide +kernel) (rl_ok (by omega) (by decide)) hF hz hS (q0 := 0) rfl rfl rfl hl.1 rfl (Nat.le_of_ble_eq_true rfl) dX9_need_86 ⟨Nat.zero_le _, Nat.zero_le _⟩) hS (fun r_9 w8 H locs hw8 hS => ?_)
    obtain ⟨rfl, rfl⟩ := hw8
    rw [te_te] at hS
    refine lv_iadd hx hb dX9_need_89 ?_
    refine lv_goto (tgt := 94) hx hb dX9_need_90 (by decide) ?_
    exact m_iret hx hb hr hlk hS ⟨by first | rfl | exact Int32.add_zero _ | (show _ = 2 * _; rw [Int32.add_zero]), rfl⟩ (Nat.le_refl 0) (Nat.le_refl 0) dX9_need_94
  | 4, _, ek =>
    refine lv_aload_n hx hb dX9_need_0 rfl (lv_at hl 0 rfl) ?_
    refine m_get (v := .ref (B 1)) hx hb hG hown hF hS (0) rfl rfl iG_9 1 (by decide) kw_472 (fun _ h9 => h9) rfl dX9_need_1 ?_
    refine lv_iload_n hx hb dX9_need_4 rfl (lv_at hl 1 rfl) ?_
    refine m_ialdv (v := nI 4) hx hb hF hS (1) rfl (j) rfl (hj) (by decide) (ek) dX9_need_5 ?_
    refine lv_istore_n (lv' := [(2, .int (nI 4)), (0, .ref (B 0)), (1, .int (nI j))]) hx hb dX9_need_6 rfl hl (by decide) rfl (fun ls hl => ?_)
    refine lv_iload_n hx hb dX9_need_7 rfl (lv_at hl 0 rfl) ?_
    refine lv_iconst (v := 3) hx hb dX9_need_8 (by decide) ?_
    refine lv_iconst (v := 4) hx hb dX9_need_9 (by decide) ?_
    refine m_ci (m_runS (n := 3) (rest := []) ⟨hx, hb, hml, hown, hG⟩ (c_in l X _ (nI 4) 3 4 0) kw_521 kw_522 kw_20 kw_523 (by decide +kernel) (rl_ok (by omega) (by decide)) hF hz hS rfl hl.1 rfl (Nat.le_of_ble_eq_true rfl) dX9_need_10 ⟨Nat.zero_le _, Nat.zero_le _⟩) hS (fun r_1 w1 H locs hw1 hS => ?_)
    obtain ⟨rfl, rfl⟩ := hw1
    refine lv_if_eq (tgt := 22) hx hb dX9_need_13 (by decide) (fun c_2 => absurd c_2 (by decide)) (fun c_2 => ?_)
    refine lv_aload_n hx hb dX9_need_16 rfl (lv_at hl 1 rfl) ?_
    refine lv_bipush (v := 13) hx hb dX9_need_17 (by decide) ?_
    refine m_cv (m_runV (n := 1) (rest := []) ⟨hx, hb, hml, hown, hG⟩ (M_began l X B n wm dy tl g hs rest r t 13 0 (ht.le (by decide))) kw_540 kw_542 kw_9 kw_20 kw_543 (by decide +kernel) (rl_ok (by omega) (by decide)) hF hz hS (q0 := 0) rfl rfl rfl hl.1 rfl (Nat.le_of_ble_eq_true rfl) dX9_need_19 ⟨Nat.zero_le _, Nat.zero_le _⟩) hS (fun w2 H locs hw2 hS => ?_)
    subst hw2
    refine lv_iload_n hx hb dX9_need_22 rfl (lv_at hl 0 rfl) ?_
    refine lv_iconst (v := 1) hx hb dX9_need_23 (by decide) ?_
    refine lv_iconst (v := 4) hx hb dX9_need_24 (by decide) ?_
    refine m_ci (m_runS (n := 3) (rest := []) ⟨hx, hb, hml, hown, hG⟩ (c_in l X _ (nI 4) 1 4 0) kw_521 kw_522 kw_20 kw_523 (by decide +kernel) (rl_ok (by omega) (by decide)) hF hz hS rfl hl.1 rfl (Nat.le_of_ble_eq_true rfl) dX9_need_25 ⟨Nat.zero_le _, Nat.zero_le _⟩) hS (fun r_3 w3 H locs hw3 hS => ?_)
    obtain ⟨rfl, rfl⟩ := hw3
    refine lv_if_eq (tgt := 37) hx hb dX9_need_28 (by decide) (fun c_4 => absurd c_4 (by decide)) (fun c_4 => ?_)
    refine lv_aload_n hx hb dX9_need_31 rfl (lv_at hl 1 rfl) ?_
    refine lv_bipush (v := 12) hx hb dX9_need_32 (by decide) ?_
    refine m_cv (m_runV (n := 1) (rest := []) ⟨hx, hb, hml, hown, hG⟩ (M_began l X B n wm dy tl g hs rest r (te r [13] t) 12 0 (ht.step (by decide))) kw_540 kw_542 kw_9 kw_20 kw_543 (by decide +kernel) (rl_ok (by omega) (by decide)) hF hz hS (q0 := 0) rfl rfl rfl hl.1 rfl (Nat.le_of_ble_eq_true rfl) dX9_need_34 ⟨Nat.zero_le _, Nat.zero_le _⟩) hS (fun w4 H locs hw4 hS => ?_)
    subst hw4
    rw [te_te] at hS
    refine lv_aload_n hx hb dX9_need_37 rfl (lv_at hl 1 rfl) ?_
    refine lv_bipush (v := 11) hx hb dX9_need_38 (by decide) ?_
    refine m_cv (m_runV (n := 1) (rest := []) ⟨hx, hb, hml, hown, hG⟩ (M_began l X B n wm dy tl g hs rest r (te r [13, 12] t) 11 0 (ht.step (by decide))) kw_540 kw_542 kw_9 kw_20 kw_543 (by decide +kernel) (rl_ok (by omega) (by decide)) hF hz hS (q0 := 0) rfl rfl rfl hl.1 rfl (Nat.le_of_ble_eq_true rfl) dX9_need_40 ⟨Nat.zero_le _, Nat.zero_le _⟩) hS (fun w5 H locs hw5 hS => ?_)
    subst hw5
    rw [te_te] at hS
    refine lv_bipush (v := 100) hx hb dX9_need_43 (by decide) ?_
    refine lv_aload_n hx hb dX9_need_45 rfl (lv_at hl 1 rfl) ?_
    refine m_get (v := .ref (B 2)) hx hb hG hown hF hS (0) rfl rfl iG_9 2 (by decide) kw_473 (fun _ h9 => h9) rfl dX9_need_46 ?_
    refine lv_iload_n hx hb dX9_need_49 rfl (lv_at hl 2 rfl) ?_
    refine m_ialdv (v := g j 1) hx hb hF hS (2) rfl (j) rfl (hj) (by decide) rfl dX9_need_50 ?_
    refine lv_bipush (v := 10) hx hb dX9_need_51 (by decide) ?_
    refine lv_idiv hx hb dX9_need_53 (by decide) ?_
    refine lv_iadd hx hb dX9_need_54 ?_
    refine lv_iload_n hx hb dX9_need_55 rfl (lv_at hl 0 rfl) ?_
    refine lv_iconst (v := 1) hx hb dX9_need_56 (by decide) ?_
    refine lv_iconst (v := 4) hx hb dX9_need_57 (by decide) ?_
    refine m_ci (m_runS (n := 3) (rest := [.int (100 + ((g j 1) / 10))]) ⟨hx, hb, hml, hown, hG⟩ (c_in l X _ (nI 4) 1 4 0) kw_521 kw_522 kw_20 kw_523 (by decide +kernel) (rl_ok (by omega) (by decide)) hF hz hS rfl hl.1 rfl (Nat.le_of_ble_eq_true rfl) dX9_need_58 ⟨Nat.zero_le _, Nat.zero_le _⟩) hS (fun r_5 w6 H locs hw6 hS => ?_)
    obtain ⟨rfl, rfl⟩ := hw6
    refine lv_if_eq (tgt := 69) hx hb dX9_need_61 (by decide) (fun c_6 => absurd c_6 (by decide)) (fun c_6 => ?_)
    refine lv_bipush (v := 50) hx hb dX9_need_64 (by decide) ?_
    refine lv_goto (tgt := 70) hx hb dX9_need_66 (by decide) ?_
    refine lv_iadd hx hb dX9_need_70 ?_
    refine lv_istore_n (lv' := [(3, .int ((100 + ((g j 1) / 10)) + 50)), (2, .int (nI 4)), (0, .ref (B 0)), (1, .int (nI j))]) hx hb dX9_need_71 rfl hl (by decide) rfl (fun ls hl => ?_)
    refine lv_iload_n hx hb dX9_need_72 rfl (lv_at hl 1 rfl) ?_
    refine lv_iconst (v := 3) hx hb dX9_need_73 (by decide) ?_
    refine lv_iconst (v := 4) hx hb dX9_need_74 (by decide) ?_
    refine m_ci (m_runS (n := 3) (rest := []) ⟨hx, hb, hml, hown, hG⟩ (c_in l X _ (nI 4) 3 4 0) kw_521 kw_522 kw_20 kw_523 (by decide +kernel) (rl_ok (by omega) (by decide)) hF hz hS rfl hl.1 rfl (Nat.le_of_ble_eq_true rfl) dX9_need_75 ⟨Nat.zero_le _, Nat.zero_le _⟩) hS (fun r_7 w7 H locs hw7 hS => ?_)
    obtain ⟨rfl, rfl⟩ := hw7
    refine lv_if_eq (tgt := 93) hx hb dX9_need_78 (by decide) (fun c_8 => absurd c_8 (by decide)) (fun c_8 => ?_)
    refine lv_iload_n hx hb dX9_need_81 rfl (lv_at hl 0 rfl) ?_
    refine lv_aload_n hx hb dX9_need_82 rfl (lv_at hl 2 rfl) ?_
    refine lv_iload_n hx hb dX9_need_83 rfl (lv_at hl 3 rfl) ?_
    refine lv_bipush (v := 20) hx hb dX9_need_84 (by decide) ?_
    refine m_ci (m_runV (n := 2) (rest := [.int ((100 + ((g j 1) / 10)) + 50)]) ⟨hx, hb, hml, hown, hG⟩ (M_rise l X B n wm dy tl g hs rest r (te r [13, 12, 11] t) j 4 20 1 hj ek (by decide) (by decide) (ht.step (by decide))) kw_536 kw_538 kw_8 kw_20 kw_539 (by decide +kernel) (rl_ok (by omega) (by decide)) hF hz hS (q0 := 0) rfl rfl rfl hl.1 rfl (Nat.le_of_ble_eq_true rfl) dX9_need_86 ⟨Nat.zero_le _, Nat.zero_le _⟩) hS (fun r_9 w8 H locs hw8 hS => ?_)
    obtain ⟨rfl, rfl⟩ := hw8
    rw [te_te] at hS
    refine lv_iadd hx hb dX9_need_89 ?_
    refine lv_goto (tgt := 94) hx hb dX9_need_90 (by decide) ?_
    exact m_iret hx hb hr hlk hS ⟨by first | rfl | exact Int32.add_zero _ | (show _ = 2 * _; rw [Int32.add_zero]), rfl⟩ (Nat.le_refl 0) (Nat.le_refl 0) dX9_need_94
  | 5, _, ek =>
    refine lv_aload_n hx hb dX9_need_0 rfl (lv_at hl 0 rfl) ?_
    refine m_get (v := .ref (B 1)) hx hb hG hown hF hS (0) rfl rfl iG_9 1 (by decide) kw_472 (fun _ h9 => h9) rfl dX9_need_1 ?_
    refine lv_iload_n hx hb dX9_need_4 rfl (lv_at hl 1 rfl) ?_
    refine m_ialdv (v := nI 5) hx hb hF hS (1) rfl (j) rfl (hj) (by decide) (ek) dX9_need_5 ?_
    refine lv_istore_n (lv' := [(2, .int (nI 5)), (0, .ref (B 0)), (1, .int (nI j))]) hx hb dX9_need_6 rfl hl (by decide) rfl (fun ls hl => ?_)
    refine lv_iload_n hx hb dX9_need_7 rfl (lv_at hl 0 rfl) ?_
    refine lv_iconst (v := 3) hx hb dX9_need_8 (by decide) ?_
    refine lv_iconst (v := 4) hx hb dX9_need_9 (by decide) ?_
    refine m_ci (m_runS (n := 3) (rest := []) ⟨hx, hb, hml, hown, hG⟩ (c_in l X _ (nI 5) 3 4 0) kw_521 kw_522 kw_20 kw_523 (by decide +kernel) (rl_ok (by omega) (by decide)) hF hz hS rfl hl.1 rfl (Nat.le_of_ble_eq_true rfl) dX9_need_10 ⟨Nat.zero_le _, Nat.zero_le _⟩) hS (fun r_1 w1 H locs hw1 hS => ?_)
    obtain ⟨rfl, rfl⟩ := hw1
    refine lv_if_eq (tgt := 22) hx hb dX9_need_13 (by decide) (fun c_2 => ?_) (fun c_2 => absurd (by decide) c_2)
    refine lv_iload_n hx hb dX9_need_22 rfl (lv_at hl 0 rfl) ?_
    refine lv_iconst (v := 1) hx hb dX9_need_23 (by decide) ?_
    refine lv_iconst (v := 4) hx hb dX9_need_24 (by decide) ?_
    refine m_ci (m_runS (n := 3) (rest := []) ⟨hx, hb, hml, hown, hG⟩ (c_in l X _ (nI 5) 1 4 0) kw_521 kw_522 kw_20 kw_523 (by decide +kernel) (rl_ok (by omega) (by decide)) hF hz hS rfl hl.1 rfl (Nat.le_of_ble_eq_true rfl) dX9_need_25 ⟨Nat.zero_le _, Nat.zero_le _⟩) hS (fun r_3 w2 H locs hw2 hS => ?_)
    obtain ⟨rfl, rfl⟩ := hw2
    refine lv_if_eq (tgt := 37) hx hb dX9_need_28 (by decide) (fun c_4 => ?_) (fun c_4 => absurd (by decide) c_4)
    refine lv_aload_n hx hb dX9_need_37 rfl (lv_at hl 1 rfl) ?_
    refine lv_bipush (v := 11) hx hb dX9_need_38 (by decide) ?_
    refine m_cv (m_runV (n := 1) (rest := []) ⟨hx, hb, hml, hown, hG⟩ (M_began l X B n wm dy tl g hs rest r t 11 0 (ht.le (by decide))) kw_540 kw_542 kw_9 kw_20 kw_543 (by decide +kernel) (rl_ok (by omega) (by decide)) hF hz hS (q0 := 0) rfl rfl rfl hl.1 rfl (Nat.le_of_ble_eq_true rfl) dX9_need_40 ⟨Nat.zero_le _, Nat.zero_le _⟩) hS (fun w3 H locs hw3 hS => ?_)
    subst hw3
    refine lv_bipush (v := 100) hx hb dX9_need_43 (by decide) ?_
    refine lv_aload_n hx hb dX9_need_45 rfl (lv_at hl 1 rfl) ?_
    refine m_get (v := .ref (B 2)) hx hb hG hown hF hS (0) rfl rfl iG_9 2 (by decide) kw_473 (fun _ h9 => h9) rfl dX9_need_46 ?_
    refine lv_iload_n hx hb dX9_need_49 rfl (lv_at hl 2 rfl) ?_
    refine m_ialdv (v := g j 1) hx hb hF hS (2) rfl (j) rfl (hj) (by decide) rfl dX9_need_50 ?_
    refine lv_bipush (v := 10) hx hb dX9_need_51 (by decide) ?_
    refine lv_idiv hx hb dX9_need_53 (by decide) ?_
    refine lv_iadd hx hb dX9_need_54 ?_
    refine lv_iload_n hx hb dX9_need_55 rfl (lv_at hl 0 rfl) ?_
    refine lv_iconst (v := 1) hx hb dX9_need_56 (by decide) ?_
    refine lv_iconst (v := 4) hx hb dX9_need_57 (by decide) ?_
    refine m_ci (m_runS (n := 3) (rest := [.int (100 + ((g j 1) / 10))]) ⟨hx, hb, hml, hown, hG⟩ (c_in l X _ (nI 5) 1 4 0) kw_521 kw_522 kw_20 kw_523 (by decide +kernel) (rl_ok (by omega) (by decide)) hF hz hS rfl hl.1 rfl (Nat.le_of_ble_eq_true rfl) dX9_need_58 ⟨Nat.zero_le _, Nat.zero_le _⟩) hS (fun r_5 w4 H locs hw4 hS => ?_)
    obtain ⟨rfl, rfl⟩ := hw4
    refine lv_if_eq (tgt := 69) hx hb dX9_need_61 (by decide) (fun c_6 => ?_) (fun c_6 => absurd (by decide) c_6)
    refine lv_iconst (v := 0) hx hb dX9_need_69 (by decide) ?_
    refine lv_iadd hx hb dX9_need_70 ?_
    refine lv_istore_n (lv' := [(3, .int ((100 + ((g j 1) / 10)) + 0)), (2, .int (nI 5)), (0, .ref (B 0)), (1, .int (nI j))]) hx hb dX9_need_71 rfl hl (by decide) rfl (fun ls hl => ?_)
    refine lv_iload_n hx hb dX9_need_72 rfl (lv_at hl 1 rfl) ?_
    refine lv_iconst (v := 3) hx hb dX9_need_73 (by decide) ?_
    refine lv_iconst (v := 4) hx hb dX9_need_74 (by decide) ?_
    refine m_ci (m_runS (n := 3) (rest := []) ⟨hx, hb, hml, hown, hG⟩ (c_in l X _ (nI 5) 3 4 0) kw_521 kw_522 kw_20 kw_523 (by decide +kernel) (rl_ok (by omega) (by decide)) hF hz hS rfl hl.1 rfl (Nat.le_of_ble_eq_true rfl) dX9_need_75 ⟨Nat.zero_le _, Nat.zero_le _⟩) hS (fun r_7 w5 H locs hw5 hS => ?_)
    obtain ⟨rfl, rfl⟩ := hw5
    refine lv_if_eq (tgt := 93) hx hb dX9_need_78 (by decide) (fun c_8 => ?_) (fun c_8 => absurd (by decide) c_8)
    refine lv_iload_n hx hb dX9_need_93 rfl (lv_at hl 0 rfl) ?_
    exact m_iret hx hb hr hlk hS ⟨by first | rfl | exact Int32.add_zero _ | (show _ = 2 * _; rw [Int32.add_zero]), rfl⟩ (Nat.le_refl 0) (Nat.le_refl 0) dX9_need_94
  | 6, _, ek =>
    refine lv_aload_n hx hb dX9_need_0 rfl (lv_at hl 0 rfl) ?_
    refine m_get (v := .ref (B 1)) hx hb hG hown hF hS (0) rfl rfl iG_9 1 (by decide) kw_472 (fun _ h9 => h9) rfl dX9_need_1 ?_
    refine lv_iload_n hx hb dX9_need_4 rfl (lv_at hl 1 rfl) ?_
    refine m_ialdv (v := nI 6) hx hb hF hS (1) rfl (j) rfl (hj) (by decide) (ek) dX9_need_5 ?_
    refine lv_istore_n (lv' := [(2, .int (nI 6)), (0, .ref (B 0)), (1, .int (nI j))]) hx hb dX9_need_6 rfl hl (by decide) rfl (fun ls hl => ?_)
    refine lv_iload_n hx hb dX9_need_7 rfl (lv_at hl 0 rfl) ?_
    refine lv_iconst (v := 3) hx hb dX9_need_8 (by decide) ?_
    refine lv_iconst (v := 4) hx hb dX9_need_9 (by decide) ?_
    refine m_ci (m_runS (n := 3) (rest := []) ⟨hx, hb, hml, hown, hG⟩ (c_in l X _ (nI 6) 3 4 0) kw_521 kw_522 kw_20 kw_523 (by decide +kernel) (rl_ok (by omega) (by decide)) hF hz hS rfl hl.1 rfl (Nat.le_of_ble_eq_true rfl) dX9_need_10 ⟨Nat.zero_le _, Nat.zero_le _⟩) hS (fun r_1 w1 H locs hw1 hS => ?_)
    obtain ⟨rfl, rfl⟩ := hw1
    refine lv_if_eq (tgt := 22) hx hb dX9_need_13 (by decide) (fun c_2 => ?_) (fun c_2 => absurd (by decide) c_2)
    refine lv_iload_n hx hb dX9_need_22 rfl (lv_at hl 0 rfl) ?_
    refine lv_iconst (v := 1) hx hb dX9_need_23 (by decide) ?_
    refine lv_iconst (v := 4) hx hb dX9_need_24 (by decide) ?_
    refine m_ci (m_runS (n := 3) (rest := []) ⟨hx, hb, hml, hown, hG⟩ (c_in l X _ (nI 6) 1 4 0) kw_521 kw_522 kw_20 kw_523 (by decide +kernel) (rl_ok (by omega) (by decide)) hF hz hS rfl hl.1 rfl (Nat.le_of_ble_eq_true rfl) dX9_need_25 ⟨Nat.zero_le _, Nat.zero_le _⟩) hS (fun r_3 w2 H locs hw2 hS => ?_)
    obtain ⟨rfl, rfl⟩ := hw2
    refine lv_if_eq (tgt := 37) hx hb dX9_need_28 (by decide) (fun c_4 => ?_) (fun c_4 => absurd (by decide) c_4)
    refine lv_aload_n hx hb dX9_need_37 rfl (lv_at hl 1 rfl) ?_
    refine lv_bipush (v := 11) hx hb dX9_need_38 (by decide) ?_
    refine m_cv (m_runV (n := 1) (rest := []) ⟨hx, hb, hml, hown, hG⟩ (M_began l X B n wm dy tl g hs rest r t 11 0 (ht.le (by decide))) kw_540 kw_542 kw_9 kw_20 kw_543 (by decide +kernel) (rl_ok (by omega) (by decide)) hF hz hS (q0 := 0) rfl rfl rfl hl.1 rfl (Nat.le_of_ble_eq_true rfl) dX9_need_40 ⟨Nat.zero_le _, Nat.zero_le _⟩) hS (fun w3 H locs hw3 hS => ?_)
    subst hw3
    refine lv_bipush (v := 100) hx hb dX9_need_43 (by decide) ?_
    refine lv_aload_n hx hb dX9_need_45 rfl (lv_at hl 1 rfl) ?_
    refine m_get (v := .ref (B 2)) hx hb hG hown hF hS (0) rfl rfl iG_9 2 (by decide) kw_473 (fun _ h9 => h9) rfl dX9_need_46 ?_
    refine lv_iload_n hx hb dX9_need_49 rfl (lv_at hl 2 rfl) ?_
    refine m_ialdv (v := g j 1) hx hb hF hS (2) rfl (j) rfl (hj) (by decide) rfl dX9_need_50 ?_
    refine lv_bipush (v := 10) hx hb dX9_need_51 (by decide) ?_
    refine lv_idiv hx hb dX9_need_53 (by decide) ?_
    refine lv_iadd hx hb dX9_need_54 ?_
    refine lv_iload_n hx hb dX9_need_55 rfl (lv_at hl 0 rfl) ?_
    refine lv_iconst (v := 1) hx hb dX9_need_56 (by decide) ?_
    refine lv_iconst (v := 4) hx hb dX9_need_57 (by decide) ?_
    refine m_ci (m_runS (n := 3) (rest := [.int (100 + ((g j 1) / 10))]) ⟨hx, hb, hml, hown, hG⟩ (c_in l X _ (nI 6) 1 4 0) kw_521 kw_522 kw_20 kw_523 (by decide +kernel) (rl_ok (by omega) (by decide)) hF hz hS rfl hl.1 rfl (Nat.le_of_ble_eq_true rfl) dX9_need_58 ⟨Nat.zero_le _, Nat.zero_le _⟩) hS (fun r_5 w4 H locs hw4 hS => ?_)
    obtain ⟨rfl, rfl⟩ := hw4
    refine lv_if_eq (tgt := 69) hx hb dX9_need_61 (by decide) (fun c_6 => ?_) (fun c_6 => absurd (by decide) c_6)
    refine lv_iconst (v := 0) hx hb dX9_need_69 (by decide) ?_
    refine lv_iadd hx hb dX9_need_70 ?_
    refine lv_istore_n (lv' := [(3, .int ((100 + ((g j 1) / 10)) + 0)), (2, .int (nI 6)), (0, .ref (B 0)), (1, .int (nI j))]) hx hb dX9_need_71 rfl hl (by decide) rfl (fun ls hl => ?_)
    refine lv_iload_n hx hb dX9_need_72 rfl (lv_at hl 1 rfl) ?_
    refine lv_iconst (v := 3) hx hb dX9_need_73 (by decide) ?_
    refine lv_iconst (v := 4) hx hb dX9_need_74 (by decide) ?_
    refine m_ci (m_runS (n := 3) (rest := []) ⟨hx, hb, hml, hown, hG⟩ (c_in l X _ (nI 6) 3 4 0) kw_521 kw_522 kw_20 kw_523 (by decide +kernel) (rl_ok (by omega) (by decide)) hF hz hS rfl hl.1 rfl (Nat.le_of_ble_eq_true rfl) dX9_need_75 ⟨Nat.zero_le _, Nat.zero_le _⟩) hS (fun r_7 w5 H locs hw5 hS => ?_)
    obtain ⟨rfl, rfl⟩ := hw5
    refine lv_if_eq (tgt := 93) hx hb dX9_need_78 (by decide) (fun c_8 => ?_) (fun c_8 => absurd (by decide) c_8)
    refine lv_iload_n hx hb dX9_need_93 rfl (lv_at hl 0 rfl) ?_
    exact m_iret hx hb hr hlk hS ⟨by first | rfl | exact Int32.add_zero _ | (show _ = 2 * _; rw [Int32.add_zero]), rfl⟩ (Nat.le_refl 0) (Nat.le_refl 0) dX9_need_94
set_option maxHeartbeats 4000000 in
set_option maxRecDepth 100000 in
theorem M_brown (l : Launch) (X : Cx) (B : Nat → Nat) (n : Nat) (wm dy tl : Int32) (g : Nat → Rc) (hs : Nat → Int32) (rest : va_W) (r : Bool) (t : Tr) (j k : Nat) (w : Int32) (f : Nat) (hj : j < 40) (ek : g j 0 = nI k) (hk : k < 7) (hf : 1 ≤ f) (ht : tR r 2 t) : cI l yX9_brown cX9_brown 5 (some .int) (rl f) X [.ref (B 0), .int (nI j), .int w] (wM X B n wm dy tl g hs rest r t) (fun v w' => v = brownV k w ∧ w' = wM X B n wm dy tl g hs rest r (te r (brownT k) t)) := by
  refine met_start (by decide) (Nat.le_of_ble_eq_true rfl) ?_
  intro p e s m below meth c ls fx hS hl
  obtain ⟨hx, hb, hr, hml, hown, hG, hlk, hF, hz, hnm⟩ := fx
  have hown : s.vm.findClass RX9 = some m.cls := hown
  have hl : lv_has ls 5 [(0, .ref (B 0)), (1, .int (nI j)), (2, .int w)] := hl
  match k, hk, ek with
  | 0, _, ek =>
    refine lv_aload_n hx hb dX9_brown_0 rfl (lv_at hl 0 rfl) ?_
    refine m_get (v := .ref (B 1)) hx hb hG hown hF hS (0) rfl rfl iG_9 1 (by decide) kw_472 (fun _ h9 => h9) rfl dX9_brown_1 ?_
    refine lv_iload_n hx hb dX9_brown_4 rfl (lv_at hl 1 rfl) ?_
    refine m_ialdv (v := nI 0) hx hb hF hS (1) rfl (j) rfl (hj) (by decide) (ek) dX9_brown_5 ?_
    refine lv_istore_n (lv' := [(3, .int (nI 0)), (0, .ref (B 0)), (1, .int (nI j)), (2, .int w)]) hx hb dX9_brown_6 rfl hl (by decide) rfl (fun ls hl => ?_)
    refine lv_iload_n hx hb dX9_brown_7 rfl (lv_at hl 0 rfl) ?_
    refine lv_iconst (v := 4) hx hb dX9_brown_8 (by decide) ?_
    refine lv_icmp_ne (tgt := 18) hx hb dX9_brown_9 (by decide) (fun c_1 => ?_) (fun c_1 => absurd c_1 (by decide))
    refine lv_iload_n hx hb dX9_brown_18 rfl (lv_at hl 0 rfl) ?_
    refine lv_iconst (v := 4) hx hb dX9_brown_19 (by decide) ?_
    refine lv_icmp_le (tgt := 29) hx hb dX9_brown_20 (by decide) (fun c_2 => ?_) (fun c_2 => absurd (by decide) c_2)
    refine lv_aload_n hx hb dX9_brown_29 rfl (lv_at hl 1 rfl) ?_
    refine lv_bipush (v := 21) hx hb dX9_brown_30 (by decide) ?_
    refine m_cv (m_runV (n := 1) (rest := []) ⟨hx, hb, hml, hown, hG⟩ (M_began l X B n wm dy tl g hs rest r t 21 0 (ht.le (by decide))) kw_540 kw_542 kw_9 kw_20 kw_543 (by decide +kernel) (rl_ok (by omega) (by decide)) hF hz hS (q0 := 0) rfl rfl rfl hl.1 rfl (Nat.le_of_ble_eq_true rfl) dX9_brown_32 ⟨Nat.zero_le _, Nat.zero_le _⟩) hS (fun w1 H locs hw1 hS => ?_)
    subst hw1
    refine lv_iload_n hx hb dX9_brown_35 rfl (lv_at hl 3 rfl) ?_
    refine lv_bipush (v := 50) hx hb dX9_brown_36 (by decide) ?_
    refine lv_idiv hx hb dX9_brown_38 (by decide) ?_
    refine lv_istore (lv' := [(4, .int (w / 50)), (3, .int (nI 0)), (0, .ref (B 0)), (1, .int (nI j)), (2, .int w)]) hx hb dX9_brown_39 hl (by decide) rfl (fun ls hl => ?_)
    refine lv_iload_n hx hb dX9_brown_41 rfl (lv_at hl 1 rfl) ?_
    refine lv_iconst (v := 4) hx hb dX9_brown_42 (by decide) ?_
    refine lv_icmp_ne (tgt := 55) hx hb dX9_brown_43 (by decide) (fun c_3 => ?_) (fun c_3 => absurd c_3 (by decide))
    refine lv_iload_n hx hb dX9_brown_55 rfl (lv_at hl 1 rfl) ?_
    refine lv_iconst (v := 4) hx hb dX9_brown_56 (by decide) ?_
    refine lv_icmp_le (tgt := 67) hx hb dX9_brown_57 (by decide) (fun c_4 => ?_) (fun c_4 => absurd (by decide) c_4)
    refine lv_iload hx hb dX9_brown_67 (lv_at hl 0 rfl) ?_
    exact m_iret hx hb hr hlk hS ⟨by first | rfl | exact Int32.add_zero _ | (show _ = 2 * _; rw [Int32.add_zero]), rfl⟩ (Nat.le_refl 0) (Nat.le_refl 0) dX9_brown_69
  | 1, _, ek =>
    refine lv_aload_n hx hb dX9_brown_0 rfl (lv_at hl 0 rfl) ?_
    refine m_get (v := .ref (B 1)) hx hb hG hown hF hS (0) rfl rfl iG_9 1 (by decide) kw_472 (fun _ h9 => h9) rfl dX9_brown_1 ?_
    refine lv_iload_n hx hb dX9_brown_4 rfl (lv_at hl 1 rfl) ?_
    refine m_ialdv (v := nI 1) hx hb hF hS (1) rfl (j) rfl (hj) (by decide) (ek) dX9_brown_5 ?_
    refine lv_istore_n (lv' := [(3, .int (nI 1)), (0, .ref (B 0)), (1, .int (nI j)), (2, .int w)]) hx hb dX9_brown_6 rfl hl (by decide) rfl (fun ls hl => ?_)
    refine lv_iload_n hx hb dX9_brown_7 rfl (lv_at hl 0 rfl) ?_
    refine lv_iconst (v := 4) hx hb dX9_brown_8 (by decide) ?_
    refine lv_icmp_ne (tgt := 18) hx hb dX9_brown_9 (by decide) (fun c_1 => ?_) (fun c_1 => absurd c_1 (by decide))
    refine lv_iload_n hx hb dX9_brown_18 rfl (lv_at hl 0 rfl) ?_
    refine lv_iconst (v := 4) hx hb dX9_brown_19 (by decide) ?_
    refine lv_icmp_le (tgt := 29) hx hb dX9_brown_20 (by decide) (fun c_2 => ?_) (fun c_2 => absurd (by decide) c_2)
    refine lv_aload_n hx hb dX9_brown_29 rfl (lv_at hl 1 rfl) ?_
    refine lv_bipush (v := 21) hx hb dX9_brown_30 (by decide) ?_
    refine m_cv (m_runV (n := 1) (rest := []) ⟨hx, hb, hml, hown, hG⟩ (M_began l X B n wm dy tl g hs rest r t 21 0 (ht.le (by decide))) kw_540 kw_542 kw_9 kw_20 kw_543 (by decide +kernel) (rl_ok (by omega) (by decide)) hF hz hS (q0 := 0) rfl rfl rfl hl.1 rfl (Nat.le_of_ble_eq_true rfl) dX9_brown_32 ⟨Nat.zero_le _, Nat.zero_le _⟩) hS (fun w1 H locs hw1 hS => ?_)
    subst hw1
    refine lv_iload_n hx hb dX9_brown_35 rfl (lv_at hl 3 rfl) ?_
    refine lv_bipush (v := 50) hx hb dX9_brown_36 (by decide) ?_
    refine lv_idiv hx hb dX9_brown_38 (by decide) ?_
    refine lv_istore (lv' := [(4, .int (w / 50)), (3, .int (nI 1)), (0, .ref (B 0)), (1, .int (nI j)), (2, .int w)]) hx hb dX9_brown_39 hl (by decide) rfl (fun ls hl => ?_)
    refine lv_iload_n hx hb dX9_brown_41 rfl (lv_at hl 1 rfl) ?_
    refine lv_iconst (v := 4) hx hb dX9_brown_42 (by decide) ?_
    refine lv_icmp_ne (tgt := 55) hx hb dX9_brown_43 (by decide) (fun c_3 => ?_) (fun c_3 => absurd c_3 (by decide))
    refine lv_iload_n hx hb dX9_brown_55 rfl (lv_at hl 1 rfl) ?_
    refine lv_iconst (v := 4) hx hb dX9_brown_56 (by decide) ?_
    refine lv_icmp_le (tgt := 67) hx hb dX9_brown_57 (by decide) (fun c_4 => ?_) (fun c_4 => absurd (by decide) c_4)
    refine lv_iload hx hb dX9_brown_67 (lv_at hl 0 rfl) ?_
    exact m_iret hx hb hr hlk hS ⟨by first | rfl | exact Int32.add_zero _ | (show _ = 2 * _; rw [Int32.add_zero]), rfl⟩ (Nat.le_refl 0) (Nat.le_refl 0) dX9_brown_69
  | 2, _, ek =>
    refine lv_aload_n hx hb dX9_brown_0 rfl (lv_at hl 0 rfl) ?_
    refine m_get (v := .ref (B 1)) hx hb hG hown hF hS (0) rfl rfl iG_9 1 (by decide) kw_472 (fun _ h9 => h9) rfl dX9_brown_1 ?_
    refine lv_iload_n hx hb dX9_brown_4 rfl (lv_at hl 1 rfl) ?_
    refine m_ialdv (v := nI 2) hx hb hF hS (1) rfl (j) rfl (hj) (by decide) (ek) dX9_brown_5 ?_
    refine lv_istore_n (lv' := [(3, .int (nI 2)), (0, .ref (B 0)), (1, .int (nI j)), (2, .int w)]) hx hb dX9_brown_6 rfl hl (by decide) rfl (fun ls hl => ?_)
    refine lv_iload_n hx hb dX9_brown_7 rfl (lv_at hl 0 rfl) ?_
    refine lv_iconst (v := 4) hx hb dX9_brown_8 (by decide) ?_
    refine lv_icmp_ne (tgt := 18) hx hb dX9_brown_9 (by decide) (fun c_1 => ?_) (fun c_1 => absurd c_1 (by decide))
    refine lv_iload_n hx hb dX9_brown_18 rfl (lv_at hl 0 rfl) ?_
    refine lv_iconst (v := 4) hx hb dX9_brown_19 (by decide) ?_
    refine lv_icmp_le (tgt := 29) hx hb dX9_brown_20 (by decide) (fun c_2 => ?_) (fun c_2 => absurd (by decide) c_2)
    refine lv_aload_n hx hb dX9_brown_29 rfl (lv_at hl 1 rfl) ?_
    refine lv_bipush (v := 21) hx hb dX9_brown_30 (by decide) ?_
    refine m_cv (m_runV (n := 1) (rest := []) ⟨hx, hb, hml, hown, hG⟩ (M_began l X B n wm dy tl g hs rest r t 21 0 (ht.le (by decide))) kw_540 kw_542 kw_9 kw_20 kw_543 (by decide +kernel) (rl_ok (by omega) (by decide)) hF hz hS (q0 := 0) rfl rfl rfl hl.1 rfl (Nat.le_of_ble_eq_true rfl) dX9_brown_32 ⟨Nat.zero_le _, Nat.zero_le _⟩) hS (fun w1 H locs hw1 hS => ?_)
    subst hw1
    refine lv_iload_n hx hb dX9_brown_35 rfl (lv_at hl 3 rfl) ?_
    refine lv_bipush (v := 50) hx hb dX9_brown_36 (by decide) ?_
    refine lv_idiv hx hb dX9_brown_38 (by decide) ?_
    refine lv_istore (lv' := [(4, .int (w / 50)), (3, .int (nI 2)), (0, .ref (B 0)), (1, .int (nI j)), (2, .int w)]) hx hb dX9_brown_39 hl (by decide) rfl (fun ls hl => ?_)
    refine lv_iload_n hx hb dX9_brown_41 rfl (lv_at hl 1 rfl) ?_
    refine lv_iconst (v := 4) hx hb dX9_brown_42 (by decide) ?_
    refine lv_icmp_ne (tgt := 55) hx hb dX9_brown_43 (by decide) (fun c_3 => ?_) (fun c_3 => absurd c_3 (by decide))
    refine lv_iload_n hx hb dX9_brown_55 rfl (lv_at hl 1 rfl) ?_
    refine lv_iconst (v := 4) hx hb dX9_brown_56 (by decide) ?_
    refine lv_icmp_le (tgt := 67) hx hb dX9_brown_57 (by decide) (fun c_4 => ?_) (fun c_4 => absurd (by decide) c_4)
    refine lv_iload hx hb dX9_brown_67 (lv_at hl 0 rfl) ?_
    exact m_iret hx hb hr hlk hS ⟨by first | rfl | exact Int32.add_zero _ | (show _ = 2 * _; rw [Int32.add_zero]), rfl⟩ (Nat.le_refl 0) (Nat.le_refl 0) dX9_brown_69
  | 3, _, ek =>
    refine lv_aload_n hx hb dX9_brown_0 rfl (lv_at hl 0 rfl) ?_
    refine m_get (v := .ref (B 1)) hx hb hG hown hF hS (0) rfl rfl iG_9 1 (by decide) kw_472 (fun _ h9 => h9) rfl dX9_brown_1 ?_
    refine lv_iload_n hx hb dX9_brown_4 rfl (lv_at hl 1 rfl) ?_
    refine m_ialdv (v := nI 3) hx hb hF hS (1) rfl (j) rfl (hj) (by decide) (ek) dX9_brown_5 ?_
    refine lv_istore_n (lv' := [(3, .int (nI 3)), (0, .ref (B 0)), (1, .int (nI j)), (2, .int w)]) hx hb dX9_brown_6 rfl hl (by decide) rfl (fun ls hl => ?_)
    refine lv_iload_n hx hb dX9_brown_7 rfl (lv_at hl 0 rfl) ?_
    refine lv_iconst (v := 4) hx hb dX9_brown_8 (by decide) ?_
    refine lv_icmp_ne (tgt := 18) hx hb dX9_brown_9 (by decide) (fun c_1 => ?_) (fun c_1 => absurd c_1 (by decide))
    refine lv_iload_n hx hb dX9_brown_18 rfl (lv_at hl 0 rfl) ?_
    refine lv_iconst (v := 4) hx hb dX9_brown_19 (by decide) ?_
    refine lv_icmp_le (tgt := 29) hx hb dX9_brown_20 (by decide) (fun c_2 => ?_) (fun c_2 => absurd (by decide) c_2)
    refine lv_aload_n hx hb dX9_brown_29 rfl (lv_at hl 1 rfl) ?_
    refine lv_bipush (v := 21) hx hb dX9_brown_30 (by decide) ?_
    refine m_cv (m_runV (n := 1) (rest := []) ⟨hx, hb, hml, hown, hG⟩ (M_began l X B n wm dy tl g hs rest r t 21 0 (ht.le (by decide))) kw_540 kw_542 kw_9 kw_20 kw_543 (by decide +kernel) (rl_ok (by omega) (by decide)) hF hz hS (q0 := 0) rfl rfl rfl hl.1 rfl (Nat.le_of_ble_eq_true rfl) dX9_brown_32 ⟨Nat.zero_le _, Nat.zero_le _⟩) hS (fun w1 H locs hw1 hS => ?_)
    subst hw1
    refine lv_iload_n hx hb dX9_brown_35 rfl (lv_at hl 3 rfl) ?_
    refine lv_bipush (v := 50) hx hb dX9_brown_36 (by decide) ?_
    refine lv_idiv hx hb dX9_brown_38 (by decide) ?_
    refine lv_istore (lv' := [(4, .int (w / 50)), (3, .int (nI 3)), (0, .ref (B 0)), (1, .int (nI j)), (2, .int w)]) hx hb dX9_brown_39 hl (by decide) rfl (fun ls hl => ?_)
    refine lv_iload_n hx hb dX9_brown_41 rfl (lv_at hl 1 rfl) ?_
    refine lv_iconst (v := 4) hx hb dX9_brown_42 (by decide) ?_
    refine lv_icmp_ne (tgt := 55) hx hb dX9_brown_43 (by decide) (fun c_3 => ?_) (fun c_3 => absurd c_3 (by decide))
    refine lv_iload_n hx hb dX9_brown_55 rfl (lv_at hl 1 rfl) ?_
    refine lv_iconst (v := 4) hx hb dX9_brown_56 (by decide) ?_
    refine lv_icmp_le (tgt := 67) hx hb dX9_brown_57 (by decide) (fun c_4 => ?_) (fun c_4 => absurd (by decide) c_4)
    refine lv_iload hx hb dX9_brown_67 (lv_at hl 0 rfl) ?_
    exact m_iret hx hb hr hlk hS ⟨by first | rfl | exact Int32.add_zero _ | (show _ = 2 * _; rw [Int32.add_zero]), rfl⟩ (Nat.le_refl 0) (Nat.le_refl 0) dX9_brown_69
  | 4, _, ek =>
    refine lv_aload_n hx hb dX9_brown_0 rfl (lv_at hl 0 rfl) ?_
    refine m_get (v := .ref (B 1)) hx hb hG hown hF hS (0) rfl rfl iG_9 1 (by decide) kw_472 (fun _ h9 => h9) rfl dX9_brown_1 ?_
    refine lv_iload_n hx hb dX9_brown_4 rfl (lv_at hl 1 rfl) ?_
    refine m_ialdv (v := nI 4) hx hb hF hS (1) rfl (j) rfl (hj) (by decide) (ek) dX9_brown_5 ?_
    refine lv_istore_n (lv' := [(3, .int (nI 4)), (0, .ref (B 0)), (1, .int (nI j)), (2, .int w)]) hx hb dX9_brown_6 rfl hl (by decide) rfl (fun ls hl => ?_)
    refine lv_iload_n hx hb dX9_brown_7 rfl (lv_at hl 0 rfl) ?_
    refine lv_iconst (v := 4) hx hb dX9_brown_8 (by decide) ?_
    refine lv_icmp_ne (tgt := 18) hx hb dX9_brown_9 (by decide) (fun c_1 => absurd (by decide) c_1) (fun c_1 => ?_)
    refine lv_aload_n hx hb dX9_brown_12 rfl (lv_at hl 1 rfl) ?_
    refine lv_bipush (v := 22) hx hb dX9_brown_13 (by decide) ?_
    refine m_cv (m_runV (n := 1) (rest := []) ⟨hx, hb, hml, hown, hG⟩ (M_began l X B n wm dy tl g hs rest r t 22 0 (ht.le (by decide))) kw_540 kw_542 kw_9 kw_20 kw_543 (by decide +kernel) (rl_ok (by omega) (by decide)) hF hz hS (q0 := 0) rfl rfl rfl hl.1 rfl (Nat.le_of_ble_eq_true rfl) dX9_brown_15 ⟨Nat.zero_le _, Nat.zero_le _⟩) hS (fun w1 H locs hw1 hS => ?_)
    subst hw1
    refine lv_iload_n hx hb dX9_brown_18 rfl (lv_at hl 0 rfl) ?_
    refine lv_iconst (v := 4) hx hb dX9_brown_19 (by decide) ?_
    refine lv_icmp_le (tgt := 29) hx hb dX9_brown_20 (by decide) (fun c_2 => ?_) (fun c_2 => absurd (by decide) c_2)
    refine lv_aload_n hx hb dX9_brown_29 rfl (lv_at hl 1 rfl) ?_
    refine lv_bipush (v := 21) hx hb dX9_brown_30 (by decide) ?_
    refine m_cv (m_runV (n := 1) (rest := []) ⟨hx, hb, hml, hown, hG⟩ (M_began l X B n wm dy tl g hs rest r (te r [22] t) 21 0 (ht.step (by decide))) kw_540 kw_542 kw_9 kw_20 kw_543 (by decide +kernel) (rl_ok (by omega) (by decide)) hF hz hS (q0 := 0) rfl rfl rfl hl.1 rfl (Nat.le_of_ble_eq_true rfl) dX9_brown_32 ⟨Nat.zero_le _, Nat.zero_le _⟩) hS (fun w2 H locs hw2 hS => ?_)
    subst hw2
    rw [te_te] at hS
    refine lv_iload_n hx hb dX9_brown_35 rfl (lv_at hl 3 rfl) ?_
    refine lv_bipush (v := 50) hx hb dX9_brown_36 (by decide) ?_
    refine lv_idiv hx hb dX9_brown_38 (by decide) ?_
    refine lv_istore (lv' := [(4, .int (w / 50)), (3, .int (nI 4)), (0, .ref (B 0)), (1, .int (nI j)), (2, .int w)]) hx hb dX9_brown_39 hl (by decide) rfl (fun ls hl => ?_)
    refine lv_iload_n hx hb dX9_brown_41 rfl (lv_at hl 1 rfl) ?_
    refine lv_iconst (v := 4) hx hb dX9_brown_42 (by decide) ?_
    refine lv_icmp_ne (tgt := 55) hx hb dX9_brown_43 (by decide) (fun c_3 => absurd (by decide) c_3) (fun c_3 => ?_)
    refine lv_iload hx hb dX9_brown_46 (lv_at hl 0 rfl) ?_
    refine lv_iconst (v := 2) hx hb dX9_brown_48 (by decide) ?_
    refine lv_iadd hx hb dX9_brown_49 ?_
    refine lv_iconst (v := 3) hx hb dX9_brown_50 (by decide) ?_
    refine lv_idiv hx hb dX9_brown_51 (by decide) ?_
    refine lv_goto (tgt := 69) hx hb dX9_brown_52 (by decide) ?_
    exact m_iret hx hb hr hlk hS ⟨by first | rfl | exact Int32.add_zero _ | (show _ = 2 * _; rw [Int32.add_zero]), rfl⟩ (Nat.le_refl 0) (Nat.le_refl 0) dX9_brown_69
  | 5, _, ek =>
    refine lv_aload_n hx hb dX9_brown_0 rfl (lv_at hl 0 rfl) ?_
    refine m_get (v := .ref (B 1)) hx hb hG hown hF hS (0) rfl rfl iG_9 1 (by decide) kw_472 (fun _ h9 => h9) rfl dX9_brown_1 ?_
    refine lv_iload_n hx hb dX9_brown_4 rfl (lv_at hl 1 rfl) ?_
    refine m_ialdv (v := nI 5) hx hb hF hS (1) rfl (j) rfl (hj) (by decide) (ek) dX9_brown_5 ?_
    refine lv_istore_n (lv' := [(3, .int (nI 5)), (0, .ref (B 0)), (1, .int (nI j)), (2, .int w)]) hx hb dX9_brown_6 rfl hl (by decide) rfl (fun ls hl => ?_)
    refine lv_iload_n hx hb dX9_brown_7 rfl (lv_at hl 0 rfl) ?_
    refine lv_iconst (v := 4) hx hb dX9_brown_8 (by decide) ?_
    refine lv_icmp_ne (tgt := 18) hx hb dX9_brown_9 (by decide) (fun c_1 => ?_) (fun c_1 => absurd c_1 (by decide))
    refine lv_iload_n hx hb dX9_brown_18 rfl (lv_at hl 0 rfl) ?_
    refine lv_iconst (v := 4) hx hb dX9_brown_19 (by decide) ?_
    refine lv_icmp_le (tgt := 29) hx hb dX9_brown_20 (by decide) (fun c_2 => absurd c_2 (by decide)) (fun c_2 => ?_)
    refine lv_aload_n hx hb dX9_brown_23 rfl (lv_at hl 1 rfl) ?_
    refine lv_bipush (v := 23) hx hb dX9_brown_24 (by decide) ?_
    refine m_cv (m_runV (n := 1) (rest := []) ⟨hx, hb, hml, hown, hG⟩ (M_began l X B n wm dy tl g hs rest r t 23 0 (ht.le (by decide))) kw_540 kw_542 kw_9 kw_20 kw_543 (by decide +kernel) (rl_ok (by omega) (by decide)) hF hz hS (q0 := 0) rfl rfl rfl hl.1 rfl (Nat.le_of_ble_eq_true rfl) dX9_brown_26 ⟨Nat.zero_le _, Nat.zero_le _⟩) hS (fun w1 H locs hw1 hS => ?_)
    subst hw1
    refine lv_aload_n hx hb dX9_brown_29 rfl (lv_at hl 1 rfl) ?_
    refine lv_bipush (v := 21) hx hb dX9_brown_30 (by decide) ?_
    refine m_cv (m_runV (n := 1) (rest := []) ⟨hx, hb, hml, hown, hG⟩ (M_began l X B n wm dy tl g hs rest r (te r [23] t) 21 0 (ht.step (by decide))) kw_540 kw_542 kw_9 kw_20 kw_543 (by decide +kernel) (rl_ok (by omega) (by decide)) hF hz hS (q0 := 0) rfl rfl rfl hl.1 rfl (Nat.le_of_ble_eq_true rfl) dX9_brown_32 ⟨Nat.zero_le _, Nat.zero_le _⟩) hS (fun w2 H locs hw2 hS => ?_)
    subst hw2
    rw [te_te] at hS
    refine lv_iload_n hx hb dX9_brown_35 rfl (lv_at hl 3 rfl) ?_
    refine lv_bipush (v := 50) hx hb dX9_brown_36 (by decide) ?_
    refine lv_idiv hx hb dX9_brown_38 (by decide) ?_
    refine lv_istore (lv' := [(4, .int (w / 50)), (3, .int (nI 5)), (0, .ref (B 0)), (1, .int (nI j)), (2, .int w)]) hx hb dX9_brown_39 hl (by decide) rfl (fun ls hl => ?_)
    refine lv_iload_n hx hb dX9_brown_41 rfl (lv_at hl 1 rfl) ?_
    refine lv_iconst (v := 4) hx hb dX9_brown_42 (by decide) ?_
    refine lv_icmp_ne (tgt := 55) hx hb dX9_brown_43 (by decide) (fun c_3 => ?_) (fun c_3 => absurd c_3 (by decide))
    refine lv_iload_n hx hb dX9_brown_55 rfl (lv_at hl 1 rfl) ?_
    refine lv_iconst (v := 4) hx hb dX9_brown_56 (by decide) ?_
    refine lv_icmp_le (tgt := 67) hx hb dX9_brown_57 (by decide) (fun c_4 => absurd c_4 (by decide)) (fun c_4 => ?_)
    refine lv_iload hx hb dX9_brown_60 (lv_at hl 0 rfl) ?_
    refine lv_iconst (v := 1) hx hb dX9_brown_62 (by decide) ?_
    refine lv_iadd hx hb dX9_brown_63 ?_
    refine lv_goto (tgt := 69) hx hb dX9_brown_64 (by decide) ?_
    exact m_iret hx hb hr hlk hS ⟨by first | rfl | exact Int32.add_zero _ | (show _ = 2 * _; rw [Int32.add_zero]), rfl⟩ (Nat.le_refl 0) (Nat.le_refl 0) dX9_brown_69
  | 6, _, ek =>
    refine lv_aload_n hx hb dX9_brown_0 rfl (lv_at hl 0 rfl) ?_
    refine m_get (v := .ref (B 1)) hx hb hG hown hF hS (0) rfl rfl iG_9 1 (by decide) kw_472 (fun _ h9 => h9) rfl dX9_brown_1 ?_
    refine lv_iload_n hx hb dX9_brown_4 rfl (lv_at hl 1 rfl) ?_
    refine m_ialdv (v := nI 6) hx hb hF hS (1) rfl (j) rfl (hj) (by decide) (ek) dX9_brown_5 ?_
    refine lv_istore_n (lv' := [(3, .int (nI 6)), (0, .ref (B 0)), (1, .int (nI j)), (2, .int w)]) hx hb dX9_brown_6 rfl hl (by decide) rfl (fun ls hl => ?_)
    refine lv_iload_n hx hb dX9_brown_7 rfl (lv_at hl 0 rfl) ?_
    refine lv_iconst (v := 4) hx hb dX9_brown_8 (by decide) ?_
    refine lv_icmp_ne (tgt := 18) hx hb dX9_brown_9 (by decide) (fun c_1 => ?_) (fun c_1 => absurd c_1 (by decide))
    refine lv_iload_n hx hb dX9_brown_18 rfl (lv_at hl 0 rfl) ?_
    refine lv_iconst (v := 4) hx hb dX9_brown_19 (by decide) ?_
    refine lv_icmp_le (tgt := 29) hx hb dX9_brown_20 (by decide) (fun c_2 => absurd c_2 (by decide)) (fun c_2 => ?_)
    refine lv_aload_n hx hb dX9_brown_23 rfl (lv_at hl 1 rfl) ?_
    refine lv_bipush (v := 23) hx hb dX9_brown_24 (by decide) ?_
    refine m_cv (m_runV (n := 1) (rest := []) ⟨hx, hb, hml, hown, hG⟩ (M_began l X B n wm dy tl g hs rest r t 23 0 (ht.le (by decide))) kw_540 kw_542 kw_9 kw_20 kw_543 (by decide +kernel) (rl_ok (by omega) (by decide)) hF hz hS (q0 := 0) rfl rfl rfl hl.1 rfl (Nat.le_of_ble_eq_true rfl) dX9_brown_26 ⟨Nat.zero_le _, Nat.zero_le _⟩) hS (fun w1 H locs hw1 hS => ?_)
    subst hw1
    refine lv_aload_n hx hb dX9_brown_29 rfl (lv_at hl 1 rfl) ?_
    refine lv_bipush (v := 21) hx hb dX9_brown_30 (by decide) ?_
    refine m_cv (m_runV (n := 1) (rest := []) ⟨hx, hb, hml, hown, hG⟩ (M_began l X B n wm dy tl g hs rest r (te r [23] t) 21 0 (ht.step (by decide))) kw_540 kw_542 kw_9 kw_20 kw_543 (by decide +kernel) (rl_ok (by omega) (by decide)) hF hz hS (q0 := 0) rfl rfl rfl hl.1 rfl (Nat.le_of_ble_eq_true rfl) dX9_brown_32 ⟨Nat.zero_le _, Nat.zero_le _⟩) hS (fun w2 H locs hw2 hS => ?_)
    subst hw2
    rw [te_te] at hS
    refine lv_iload_n hx hb dX9_brown_35 rfl (lv_at hl 3 rfl) ?_
    refine lv_bipush (v := 50) hx hb dX9_brown_36 (by decide) ?_
    refine lv_idiv hx hb dX9_brown_38 (by decide) ?_
    refine lv_istore (lv' := [(4, .int (w / 50)), (3, .int (nI 6)), (0, .ref (B 0)), (1, .int (nI j)), (2, .int w)]) hx hb dX9_brown_39 hl (by decide) rfl (fun ls hl => ?_)
    refine lv_iload_n hx hb dX9_brown_41 rfl (lv_at hl 1 rfl) ?_
    refine lv_iconst (v := 4) hx hb dX9_brown_42 (by decide) ?_
    refine lv_icmp_ne (tgt := 55) hx hb dX9_brown_43 (by decide) (fun c_3 => ?_) (fun c_3 => absurd c_3 (by decide))
    refine lv_iload_n hx hb dX9_brown_55 rfl (lv_at hl 1 rfl) ?_
    refine lv_iconst (v := 4) hx hb dX9_brown_56 (by decide) ?_
    refine lv_icmp_le (tgt := 67) hx hb dX9_brown_57 (by decide) (fun c_4 => absurd c_4 (by decide)) (fun c_4 => ?_)
    refine lv_iload hx hb dX9_brown_60 (lv_at hl 0 rfl) ?_
    refine lv_iconst (v := 1) hx hb dX9_brown_62 (by decide) ?_
    refine lv_iadd hx hb dX9_brown_63 ?_
    refine lv_goto (tgt := 69) hx hb dX9_brown_64 (by decide) ?_
    exact m_iret hx hb hr hlk hS ⟨by first | rfl | exact Int32.add_zero _ | (show _ = 2 * _; rw [Int32.add_zero]), rfl⟩ (Nat.le_refl 0) (Nat.le_refl 0) dX9_brown_69
set_option maxHeartbeats 4000000 in
set_option maxRecDepth 100000 in
theorem M_price (l : Launch) (X : Cx) (B : Nat → Nat) (n : Nat) (wm dy tl : Int32) (g : Nat → Rc) (hs : Nat → Int32) (rest : va_W) (r : Bool) (t : Tr) (j k : Nat) (f : Nat) (hj : j < 40) (ek : g j 0 = nI k) (hk : k < 7) (hf : 3 ≤ f) (ht : tR r 9 t) : cI l yX9_price cX9_price 4 (some .int) (rl f) X [.ref (B 0), .int (nI j)] (wM X B n wm dy tl g hs rest r t) (fun v w' => v = priceV k (g j 1) ∧ w' = wM X B n wm dy tl g hs rest r (te r (priceT k) t)) := by
  refine met_start (by decide) (Nat.le_of_ble_eq_true rfl) ?_
  intro p e s m below meth c ls fx hS hl
  obtain ⟨hx, hb, hr, hml, hown, hG, hlk, hF, hz, hnm⟩ := fx
  have hown : s.vm.findClass RX9 = some m.cls := hown
  have hl : lv_has ls 4 [(0, .ref (B 0)), (1, .int (nI j))] := hl
  match k, hk, ek with
  | 0, _, ek =>
    refine lv_aload_n hx hb dX9_price_0 rfl (lv_at hl 0 rfl) ?_
    refine m_get (v := .ref (B 1)) hx hb hG hown hF hS (0) rfl rfl iG_9 1 (by decide) kw_472 (fun _ h9 => h9) rfl dX9_price_1 ?_
    refine lv_iload_n hx hb dX9_price_4 rfl (lv_at hl 1 rfl) ?_
    refine m_ialdv (v := nI 0) hx hb hF hS (1) rfl (j) rfl (hj) (by decide) (ek) dX9_price_5 ?_
    refine lv_istore_n (lv' := [(2, .int (nI 0)), (0, .ref (B 0)), (1, .int (nI j))]) hx hb dX9_price_6 rfl hl (by decide) rfl (fun ls hl => ?_)
    refine lv_iload_n hx hb dX9_price_7 rfl (lv_at hl 0 rfl) ?_
    refine lv_iconst (v := 4) hx hb dX9_price_8 (by decide) ?_
    refine lv_icmp_ne (tgt := 18) hx hb dX9_price_9 (by decide) (fun c_1 => ?_) (fun c_1 => absurd c_1 (by decide))
    refine lv_iload_n hx hb dX9_price_18 rfl (lv_at hl 0 rfl) ?_
    refine lv_iconst (v := 3) hx hb dX9_price_19 (by decide) ?_
    refine lv_iconst (v := 4) hx hb dX9_price_20 (by decide) ?_
    refine m_ci (m_runS (n := 3) (rest := []) ⟨hx, hb, hml, hown, hG⟩ (c_in l X _ (nI 0) 3 4 0) kw_521 kw_522 kw_20 kw_523 (by decide +kernel) (rl_ok (by omega) (by decide)) hF hz hS rfl hl.1 rfl (Nat.le_of_ble_eq_true rfl) dX9_price_21 ⟨Nat.zero_le _, Nat.zero_le _⟩) hS (fun r_2 w1 H locs hw1 hS => ?_)
    obtain ⟨rfl, rfl⟩ := hw1
    refine lv_if_eq (tgt := 33) hx hb dX9_price_24 (by decide) (fun c_3 => ?_) (fun c_3 => absurd (by decide) c_3)
    refine lv_iload_n hx hb dX9_price_33 rfl (lv_at hl 0 rfl) ?_
    refine lv_bipush (v := 6) hx hb dX9_price_34 (by decide) ?_
    refine lv_icmp_ne (tgt := 45) hx hb dX9_price_36 (by decide) (fun c_4 => ?_) (fun c_4 => absurd c_4 (by decide))
    refine lv_aload_n hx hb dX9_price_45 rfl (lv_at hl 1 rfl) ?_
    refine lv_bipush (v := 31) hx hb dX9_price_46 (by decide) ?_
    refine m_cv (m_runV (n := 1) (rest := []) ⟨hx, hb, hml, hown, hG⟩ (M_began l X B n wm dy tl g hs rest r t 31 0 (ht.le (by decide))) kw_540 kw_542 kw_9 kw_20 kw_543 (by decide +kernel) (rl_ok (by omega) (by decide)) hF hz hS (q0 := 0) rfl rfl rfl hl.1 rfl (Nat.le_of_ble_eq_true rfl) dX9_price_48 ⟨Nat.zero_le _, Nat.zero_le _⟩) hS (fun w2 H locs hw2 hS => ?_)
    subst hw2
    refine lv_bipush (v := 10) hx hb dX9_price_51 (by decide) ?_
    refine lv_aload_n hx hb dX9_price_53 rfl (lv_at hl 1 rfl) ?_
    refine m_get (v := .ref (B 2)) hx hb hG hown hF hS (0) rfl rfl iG_9 2 (by decide) kw_473 (fun _ h9 => h9) rfl dX9_price_54 ?_
    refine lv_iload_n hx hb dX9_price_57 rfl (lv_at hl 2 rfl) ?_
    refine m_ialdv (v := g j 1) hx hb hF hS (2) rfl (j) rfl (hj) (by decide) rfl dX9_price_58 ?_
    refine lv_iconst (v := 5) hx hb dX9_price_59 (by decide) ?_
    refine lv_idiv hx hb dX9_price_60 (by decide) ?_
    refine lv_iadd hx hb dX9_price_61 ?_
    refine lv_iload_n hx hb dX9_price_62 rfl (lv_at hl 0 rfl) ?_
    refine lv_iconst (v := 3) hx hb dX9_price_63 (by decide) ?_
    refine lv_iconst (v := 4) hx hb dX9_price_64 (by decide) ?_
    refine m_ci (m_runS (n := 3) (rest := [.int (10 + ((g j 1) / 5))]) ⟨hx, hb, hml, hown, hG⟩ (c_in l X _ (nI 0) 3 4 0) kw_521 kw_522 kw_20 kw_523 (by decide +kernel) (rl_ok (by omega) (by decide)) hF hz hS rfl hl.1 rfl (Nat.le_of_ble_eq_true rfl) dX9_price_65 ⟨Nat.zero_le _, Nat.zero_le _⟩) hS (fun r_5 w3 H locs hw3 hS => ?_)
    obtain ⟨rfl, rfl⟩ := hw3
    refine lv_if_eq (tgt := 76) hx hb dX9_price_68 (by decide) (fun c_6 => ?_) (fun c_6 => absurd (by decide) c_6)
    refine lv_iconst (v := 0) hx hb dX9_price_76 (by decide) ?_
    refine lv_iadd hx hb dX9_price_77 ?_
    refine lv_istore_n (lv' := [(3, .int ((10 + ((g j 1) / 5)) + 0)), (2, .int (nI 0)), (0, .ref (B 0)), (1, .int (nI j))]) hx hb dX9_price_78 rfl hl (by decide) rfl (fun ls hl => ?_)
    refine lv_iload_n hx hb dX9_price_79 rfl (lv_at hl 1 rfl) ?_
    refine lv_iconst (v := 4) hx hb dX9_price_80 (by decide) ?_
    refine lv_icmp_ne (tgt := 94) hx hb dX9_price_81 (by decide) (fun c_7 => ?_) (fun c_7 => absurd c_7 (by decide))
    refine lv_iload_n hx hb dX9_price_94 rfl (lv_at hl 1 rfl) ?_
    refine lv_bipush (v := 6) hx hb dX9_price_95 (by decide) ?_
    refine lv_icmp_ne (tgt := 106) hx hb dX9_price_97 (by decide) (fun c_8 => ?_) (fun c_8 => absurd c_8 (by decide))
    refine lv_iload_n hx hb dX9_price_106 rfl (lv_at hl 0 rfl) ?_
    exact m_iret hx hb hr hlk hS ⟨by first | rfl | exact Int32.add_zero _ | (show _ = 2 * _; rw [Int32.add_zero]), rfl⟩ (Nat.le_refl 0) (Nat.le_refl 0) dX9_price_107
  | 1, _, ek =>
    refine lv_aload_n hx hb dX9_price_0 rfl (lv_at hl 0 rfl) ?_
    refine m_get (v := .ref (B 1)) hx hb hG hown hF hS (0) rfl rfl iG_9 1 (by decide) kw_472 (fun _ h9 => h9) rfl dX9_price_1 ?_
    refine lv_iload_n hx hb dX9_price_4 rfl (lv_at hl 1 rfl) ?_
    refine m_ialdv (v := nI 1) hx hb hF hS (1) rfl (j) rfl (hj) (by decide) (ek) dX9_price_5 ?_
    refine lv_istore_n (lv' := [(2, .int (nI 1)), (0, .ref (B 0)), (1, .int (nI j))]) hx hb dX9_price_6 rfl hl (by decide) rfl (fun ls hl => ?_)
    refine lv_iload_n hx hb dX9_price_7 rfl (lv_at hl 0 rfl) ?_
    refine lv_iconst (v := 4) hx hb dX9_price_8 (by decide) ?_
    refine lv_icmp_ne (tgt := 18) hx hb dX9_price_9 (by decide) (fun c_1 => ?_) (fun c_1 => absurd c_1 (by decide))
    refine lv_iload_n hx hb dX9_price_18 rfl (lv_at hl 0 rfl) ?_
    refine lv_iconst (v := 3) hx hb dX9_price_19 (by decide) ?_
    refine lv_iconst (v := 4) hx hb dX9_price_20 (by decide) ?_
    refine m_ci (m_runS (n := 3) (rest := []) ⟨hx, hb, hml, hown, hG⟩ (c_in l X _ (nI 1) 3 4 0) kw_521 kw_522 kw_20 kw_523 (by decide +kernel) (rl_ok (by omega) (by decide)) hF hz hS rfl hl.1 rfl (Nat.le_of_ble_eq_true rfl) dX9_price_21 ⟨Nat.zero_le _, Nat.zero_le _⟩) hS (fun r_2 w1 H locs hw1 hS => ?_)
    obtain ⟨rfl, rfl⟩ := hw1
    refine lv_if_eq (tgt := 33) hx hb dX9_price_24 (by decide) (fun c_3 => ?_) (fun c_3 => absurd (by decide) c_3)
    refine lv_iload_n hx hb dX9_price_33 rfl (lv_at hl 0 rfl) ?_
    refine lv_bipush (v := 6) hx hb dX9_price_34 (by decide) ?_
    refine lv_icmp_ne (tgt := 45) hx hb dX9_price_36 (by decide) (fun c_4 => ?_) (fun c_4 => absurd c_4 (by decide))
    refine lv_aload_n hx hb dX9_price_45 rfl (lv_at hl 1 rfl) ?_
    refine lv_bipush (v := 31) hx hb dX9_price_46 (by decide) ?_
    refine m_cv (m_runV (n := 1) (rest := []) ⟨hx, hb, hml, hown, hG⟩ (M_began l X B n wm dy tl g hs rest r t 31 0 (ht.le (by decide))) kw_540 kw_542 kw_9 kw_20 kw_543 (by decide +kernel) (rl_ok (by omega) (by decide)) hF hz hS (q0 := 0) rfl rfl rfl hl.1 rfl (Nat.le_of_ble_eq_true rfl) dX9_price_48 ⟨Nat.zero_le _, Nat.zero_le _⟩) hS (fun w2 H locs hw2 hS => ?_)
    subst hw2
    refine lv_bipush (v := 10) hx hb dX9_price_51 (by decide) ?_
    refine lv_aload_n hx hb dX9_price_53 rfl (lv_at hl 1 rfl) ?_
    refine m_get (v := .ref (B 2)) hx hb hG hown hF hS (0) rfl rfl iG_9 2 (by decide) kw_473 (fun _ h9 => h9) rfl dX9_price_54 ?_
    refine lv_iload_n hx hb dX9_price_57 rfl (lv_at hl 2 rfl) ?_
    refine m_ialdv (v := g j 1) hx hb hF hS (2) rfl (j) rfl (hj) (by decide) rfl dX9_price_58 ?_
    refine lv_iconst (v := 5) hx hb dX9_price_59 (by decide) ?_
    refine lv_idiv hx hb dX9_price_60 (by decide) ?_
    refine lv_iadd hx hb dX9_price_61 ?_
    refine lv_iload_n hx hb dX9_price_62 rfl (lv_at hl 0 rfl) ?_
    refine lv_iconst (v := 3) hx hb dX9_price_63 (by decide) ?_
    refine lv_iconst (v := 4) hx hb dX9_price_64 (by decide) ?_
    refine m_ci (m_runS (n := 3) (rest := [.int (10 + ((g j 1) / 5))]) ⟨hx, hb, hml, hown, hG⟩ (c_in l X _ (nI 1) 3 4 0) kw_521 kw_522 kw_20 kw_523 (by decide +kernel) (rl_ok (by omega) (by decide)) hF hz hS rfl hl.1 rfl (Nat.le_of_ble_eq_true rfl) dX9_price_65 ⟨Nat.zero_le _, Nat.zero_le _⟩) hS (fun r_5 w3 H locs hw3 hS => ?_)
    obtain ⟨rfl, rfl⟩ := hw3
    refine lv_if_eq (tgt := 76) hx hb dX9_price_68 (by decide) (fun c_6 => ?_) (fun c_6 => absurd (by decide) c_6)
    refine lv_iconst (v := 0) hx hb dX9_price_76 (by decide) ?_
    refine lv_iadd hx hb dX9_price_77 ?_
    refine lv_istore_n (lv' := [(3, .int ((10 + ((g j 1) / 5)) + 0)), (2, .int (nI 1)), (0, .ref (B 0)), (1, .int (nI j))]) hx hb dX9_price_78 rfl hl (by decide) rfl (fun ls hl => ?_)
    refine lv_iload_n hx hb dX9_price_79 rfl (lv_at hl 1 rfl) ?_
    refine lv_iconst (v := 4) hx hb dX9_price_80 (by decide) ?_
    refine lv_icmp_ne (tgt := 94) hx hb dX9_price_81 (by decide) (fun c_7 => ?_) (fun c_7 => absurd c_7 (by decide))
    refine lv_iload_n hx hb dX9_price_94 rfl (lv_at hl 1 rfl) ?_
    refine lv_bipush (v := 6) hx hb dX9_price_95 (by decide) ?_
    refine lv_icmp_ne (tgt := 106) hx hb dX9_price_97 (by decide) (fun c_8 => ?_) (fun c_8 => absurd c_8 (by decide))
    refine lv_iload_n hx hb dX9_price_106 rfl (lv_at hl 0 rfl) ?_
    exact m_iret hx hb hr hlk hS ⟨by first | rfl | exact Int32.add_zero _ | (show _ = 2 * _; rw [Int32.add_zero]), rfl⟩ (Nat.le_refl 0) (Nat.le_refl 0) dX9_price_107
  | 2, _, ek =>
    refine lv_aload_n hx hb dX9_price_0 rfl (lv_at hl 0 rfl) ?_
    refine m_get (v := .ref (B 1)) hx hb hG hown hF hS (0) rfl rfl iG_9 1 (by decide) kw_472 (fun _ h9 => h9) rfl dX9_price_1 ?_
    refine lv_iload_n hx hb dX9_price_4 rfl (lv_at hl 1 rfl) ?_
    refine m_ialdv (v := nI 2) hx hb hF hS (1) rfl (j) rfl (hj) (by decide) (ek) dX9_price_5 ?_
    refine lv_istore_n (lv' := [(2, .int (nI 2)), (0, .ref (B 0)), (1, .int (nI j))]) hx hb dX9_price_6 rfl hl (by decide) rfl (fun ls hl => ?_)
    refine lv_iload_n hx hb dX9_price_7 rfl (lv_at hl 0 rfl) ?_
    refine lv_iconst (v := 4) hx hb dX9_price_8 (by decide) ?_
    refine lv_icmp_ne (tgt := 18) hx hb dX9_price_9 (by decide) (fun c_1 => ?_) (fun c_1 => absurd c_1 (by decide))
    refine lv_iload_n hx hb dX9_price_18 rfl (lv_at hl 0 rfl) ?_
    refine lv_iconst (v := 3) hx hb dX9_price_19 (by decide) ?_
    refine lv_iconst (v := 4) hx hb dX9_price_20 (by decide) ?_
    refine m_ci (m_runS (n := 3) (rest := []) ⟨hx, hb, hml, hown, hG⟩ (c_in l X _ (nI 2) 3 4 0) kw_521 kw_522 kw_20 kw_523 (by decide +kernel) (rl_ok (by omega) (by decide)) hF hz hS rfl hl.1 rfl (Nat.le_of_ble_eq_true rfl) dX9_price_21 ⟨Nat.zero_le _, Nat.zero_le _⟩) hS (fun r_2 w1 H locs hw1 hS => ?_)
    obtain ⟨rfl, rfl⟩ := hw1
    refine lv_if_eq (tgt := 33) hx hb dX9_price_24 (by decide) (fun c_3 => ?_) (fun c_3 => absurd (by decide) c_3)
    refine lv_iload_n hx hb dX9_price_33 rfl (lv_at hl 0 rfl) ?_
    refine lv_bipush (v := 6) hx hb dX9_price_34 (by decide) ?_
    refine lv_icmp_ne (tgt := 45) hx hb dX9_price_36 (by decide) (fun c_4 => ?_) (fun c_4 => absurd c_4 (by decide))
    refine lv_aload_n hx hb dX9_price_45 rfl (lv_at hl 1 rfl) ?_
    refine lv_bipush (v := 31) hx hb dX9_price_46 (by decide) ?_
    refine m_cv (m_runV (n := 1) (rest := []) ⟨hx, hb, hml, hown, hG⟩ (M_began l X B n wm dy tl g hs rest r t 31 0 (ht.le (by decide))) kw_540 kw_542 kw_9 kw_20 kw_543 (by decide +kernel) (rl_ok (by omega) (by decide)) hF hz hS (q0 := 0) rfl rfl rfl hl.1 rfl (Nat.le_of_ble_eq_true rfl) dX9_price_48 ⟨Nat.zero_le _, Nat.zero_le _⟩) hS (fun w2 H locs hw2 hS => ?_)
    subst hw2
    refine lv_bipush (v := 10) hx hb dX9_price_51 (by decide) ?_
    refine lv_aload_n hx hb dX9_price_53 rfl (lv_at hl 1 rfl) ?_
    refine m_get (v := .ref (B 2)) hx hb hG hown hF hS (0) rfl rfl iG_9 2 (by decide) kw_473 (fun _ h9 => h9) rfl dX9_price_54 ?_
    refine lv_iload_n hx hb dX9_price_57 rfl (lv_at hl 2 rfl) ?_
    refine m_ialdv (v := g j 1) hx hb hF hS (2) rfl (j) rfl (hj) (by decide) rfl dX9_price_58 ?_
    refine lv_iconst (v := 5) hx hb dX9_price_59 (by decide) ?_
    refine lv_idiv hx hb dX9_price_60 (by decide) ?_
    refine lv_iadd hx hb dX9_price_61 ?_
    refine lv_iload_n hx hb dX9_price_62 rfl (lv_at hl 0 rfl) ?_
    refine lv_iconst (v := 3) hx hb dX9_price_63 (by decide) ?_
    refine lv_iconst (v := 4) hx hb dX9_price_64 (by decide) ?_
    refine m_ci (m_runS (n := 3) (rest := [.int (10 + ((g j 1) / 5))]) ⟨hx, hb, hml, hown, hG⟩ (c_in l X _ (nI 2) 3 4 0) kw_521 kw_522 kw_20 kw_523 (by decide +kernel) (rl_ok (by omega) (by decide)) hF hz hS rfl hl.1 rfl (Nat.le_of_ble_eq_true rfl) dX9_price_65 ⟨Nat.zero_le _, Nat.zero_le _⟩) hS (fun r_5 w3 H locs hw3 hS => ?_)
    obtain ⟨rfl, rfl⟩ := hw3
    refine lv_if_eq (tgt := 76) hx hb dX9_price_68 (by decide) (fun c_6 => ?_) (fun c_6 => absurd (by decide) c_6)
    refine lv_iconst (v := 0) hx hb dX9_price_76 (by decide) ?_
    refine lv_iadd hx hb dX9_price_77 ?_
    refine lv_istore_n (lv' := [(3, .int ((10 + ((g j 1) / 5)) + 0)), (2, .int (nI 2)), (0, .ref (B 0)), (1, .int (nI j))]) hx hb dX9_price_78 rfl hl (by decide) rfl (fun ls hl => ?_)
    refine lv_iload_n hx hb dX9_price_79 rfl (lv_at hl 1 rfl) ?_
    refine lv_iconst (v := 4) hx hb dX9_price_80 (by decide) ?_
    refine lv_icmp_ne (tgt := 94) hx hb dX9_price_81 (by decide) (fun c_7 => ?_) (fun c_7 => absurd c_7 (by decide))
    refine lv_iload_n hx hb dX9_price_94 rfl (lv_at hl 1 rfl) ?_
    refine lv_bipush (v := 6) hx hb dX9_price_95 (by decide) ?_
    refine lv_icmp_ne (tgt := 106) hx hb dX9_price_97 (by decide) (fun c_8 => ?_) (fun c_8 => absurd c_8 (by decide))
    refine lv_iload_n hx hb dX9_price_106 rfl (lv_at hl 0 rfl) ?_
    exact m_iret hx hb hr hlk hS ⟨by first | rfl | exact Int32.add_zero _ | (show _ = 2 * _; rw [Int32.add_zero]), rfl⟩ (Nat.le_refl 0) (Nat.le_refl 0) dX9_price_107
  | 3, _, ek =>
    refine lv_aload_n hx hb dX9_price_0 rfl (lv_at hl 0 rfl) ?_
    refine m_get (v := .ref (B 1)) hx hb hG hown hF hS (0) rfl rfl iG_9 1 (by decide) kw_472 (fun _ h9 => h9) rfl dX9_price_1 ?_
    refine lv_iload_n hx hb dX9_price_4 rfl (lv_at hl 1 rfl) ?_
    refine m_ialdv (v := nI 3) hx hb hF hS (1) rfl (j) rfl (hj) (by decide) (ek) dX9_price_5 ?_
    refine lv_istore_n (lv' := [(2, .int (nI 3)), (0, .ref (B 0)), (1, .int (nI j))]) hx hb dX9_price_6 rfl hl (by decide) rfl (fun ls hl => ?_)
    refine lv_iload_n hx hb dX9_price_7 rfl (lv_at hl 0 rfl) ?_
    refine lv_iconst (v := 4) hx hb dX9_price_8 (by decide) ?_
    refine lv_icmp_ne (tgt := 18) hx hb dX9_price_9 (by decide) (fun c_1 => ?_) (fun c_1 => absurd c_1 (by decide))
    refine lv_iload_n hx hb dX9_price_18 rfl (lv_at hl 0 rfl) ?_
    refine lv_iconst (v := 3) hx hb dX9_price_19 (by decide) ?_
    refine lv_iconst (v := 4) hx hb dX9_price_20 (by decide) ?_
    refine m_ci (m_runS (n := 3) (rest := []) ⟨hx, hb, hml, hown, hG⟩ (c_in l X _ (nI 3) 3 4 0) kw_521 kw_522 kw_20 kw_523 (by decide +kernel) (rl_ok (by omega) (by decide)) hF hz hS rfl hl.1 rfl (Nat.le_of_ble_eq_true rfl) dX9_price_21 ⟨Nat.zero_le _, Nat.zero_le _⟩) hS (fun r_2 w1 H locs hw1 hS => ?_)
    obtain ⟨rfl, rfl⟩ := hw1
    refine lv_if_eq (tgt := 33) hx hb dX9_price_24 (by decide) (fun c_3 => absurd c_3 (by decide)) (fun c_3 => ?_)
    refine lv_aload_n hx hb dX9_price_27 rfl (lv_at hl 1 rfl) ?_
    refine lv_bipush (v := 32) hx hb dX9_price_28 (by decide) ?_
    refine m_cv (m_runV (n := 1) (rest := []) ⟨hx, hb, hml, hown, hG⟩ (M_began l X B n wm dy tl g hs rest r t 32 0 (ht.le (by decide))) kw_540 kw_542 kw_9 kw_20 kw_543 (by decide +kernel) (rl_ok (by omega) (by decide)) hF hz hS (q0 := 0) rfl rfl rfl hl.1 rfl (Nat.le_of_ble_eq_true rfl) dX9_price_30 ⟨Nat.zero_le _, Nat.zero_le _⟩) hS (fun w2 H locs hw2 hS => ?_)
    subst hw2
    refine lv_iload_n hx hb dX9_price_33 rfl (lv_at hl 0 rfl) ?_
    refine lv_bipush (v := 6) hx hb dX9_price_34 (by decide) ?_
    refine lv_icmp_ne (tgt := 45) hx hb dX9_price_36 (by decide) (fun c_4 => ?_) (fun c_4 => absurd c_4 (by decide))
    refine lv_aload_n hx hb dX9_price_45 rfl (lv_at hl 1 rfl) ?_
    refine lv_bipush (v := 31) hx hb dX9_price_46 (by decide) ?_
    refine m_cv (m_runV (n := 1) (rest := []) ⟨hx, hb, hml, hown, hG⟩ (M_began l X B n wm dy tl g hs rest r (te r [32] t) 31 0 (ht.step (by decide))) kw_540 kw_542 kw_9 kw_20 kw_543 (by decide +kernel) (rl_ok (by omega) (by decide)) hF hz hS (q0 := 0) rfl rfl rfl hl.1 rfl (Nat.le_of_ble_eq_true rfl) dX9_price_48 ⟨Nat.zero_le _, Nat.zero_le _⟩) hS (fun w3 H locs hw3 hS => ?_)
    subst hw3
    rw [te_te] at hS
    refine lv_bipush (v := 10) hx hb dX9_price_51 (by decide) ?_
    refine lv_aload_n hx hb dX9_price_53 rfl (lv_at hl 1 rfl) ?_
    refine m_get (v := .ref (B 2)) hx hb hG hown hF hS (0) rfl rfl iG_9 2 (by decide) kw_473 (fun _ h9 => h9) rfl dX9_price_54 ?_
    refine lv_iload_n hx hb dX9_price_57 rfl (lv_at hl 2 rfl) ?_
    refine m_ialdv (v := g j 1) hx hb hF hS (2) rfl (j) rfl (hj) (by decide) rfl dX9_price_58 ?_
    refine lv_iconst (v := 5) hx hb dX9_price_59 (by decide) ?_
    refine lv_idiv hx hb dX9_price_60 (by decide) ?_
    refine lv_iadd hx hb dX9_price_61 ?_
    refine lv_iload_n hx hb dX9_price_62 rfl (lv_at hl 0 rfl) ?_
    refine lv_iconst (v := 3) hx hb dX9_price_63 (by decide) ?_
    refine lv_iconst (v := 4) hx hb dX9_price_64 (by decide) ?_
    refine m_ci (m_runS (n := 3) (rest := [.int (10 + ((g j 1) / 5))]) ⟨hx, hb, hml, hown, hG⟩ (c_in l X _ (nI 3) 3 4 0) kw_521 kw_522 kw_20 kw_523 (by decide +kernel) (rl_ok (by omega) (by decide)) hF hz hS rfl hl.1 rfl (Nat.le_of_ble_eq_true rfl) dX9_price_65 ⟨Nat.zero_le _, Nat.zero_le _⟩) hS (fun r_5 w4 H locs hw4 hS => ?_)
    obtain ⟨rfl, rfl⟩ := hw4
    refine lv_if_eq (tgt := 76) hx hb dX9_price_68 (by decide) (fun c_6 => absurd c_6 (by decide)) (fun c_6 => ?_)
    refine lv_bipush (v := 40) hx hb dX9_price_71 (by decide) ?_
    refine lv_goto (tgt := 77) hx hb dX9_price_73 (by decide) ?_
    refine lv_iadd hx hb dX9_price_77 ?_
    refine lv_istore_n (lv' := [(3, .int ((10 + ((g j 1) / 5)) + 40)), (2, .int (nI 3)), (0, .ref (B 0)), (1, .int (nI j))]) hx hb dX9_price_78 rfl hl (by decide) rfl (fun ls hl => ?_)
    refine lv_iload_n hx hb dX9_price_79 rfl (lv_at hl 1 rfl) ?_
    refine lv_iconst (v := 4) hx hb dX9_price_80 (by decide) ?_
    refine lv_icmp_ne (tgt := 94) hx hb dX9_price_81 (by decide) (fun c_7 => ?_) (fun c_7 => absurd c_7 (by decide))
    refine lv_iload_n hx hb dX9_price_94 rfl (lv_at hl 1 rfl) ?_
    refine lv_bipush (v := 6) hx hb dX9_price_95 (by decide) ?_
    refine lv_icmp_ne (tgt := 106) hx hb dX9_price_97 (by decide) (fun c_8 => ?_) (fun c_8 => absurd c_8 (by decide))
    refine lv_iload_n hx hb dX9_price_106 rfl (lv_at hl 0 rfl) ?_
    exact m_iret hx hb hr hlk hS ⟨by first | rfl | exact Int32.add_zero _ | (show _ = 2 * _; rw [Int32.add_zero]), rfl⟩ (Nat.le_refl 0) (Nat.le_refl 0) dX9_price_107
  | 4, _, ek =>
    refine lv_aload_n hx hb dX9_price_0 rfl (lv_at hl 0 rfl) ?_
    refine m_get (v := .ref (B 1)) hx hb hG hown hF hS (0) rfl rfl iG_9 1 (by decide) kw_472 (fun _ h9 => h9) rfl dX9_price_1 ?_
    refine lv_iload_n hx hb dX9_price_4 rfl (lv_at hl 1 rfl) ?_
    refine m_ialdv (v := nI 4) hx hb hF hS (1) rfl (j) rfl (hj) (by decide) (ek) dX9_price_5 ?_
    refine lv_istore_n (lv' := [(2, .int (nI 4)), (0, .ref (B 0)), (1, .int (nI j))]) hx hb dX9_price_6 rfl hl (by decide) rfl (fun ls hl => ?_)
    refine lv_iload_n hx hb dX9_price_7 rfl (lv_at hl 0 rfl) ?_
    refine lv_iconst (v := 4) hx hb dX9_price_8 (by decide) ?_
    refine lv_icmp_ne (tgt := 18) hx hb dX9_price_9 (by decide) (fun c_1 => absurd (by decide) c_1) (fun c_1 => ?_)
    refine lv_aload_n hx hb dX9_price_12 rfl (lv_at hl 1 rfl) ?_
    refine lv_bipush (v := 33) hx hb dX9_price_13 (by decide) ?_
    refine m_cv (m_runV (n := 1) (rest := []) ⟨hx, hb, hml, hown, hG⟩ (M_began l X B n wm dy tl g hs rest r t 33 0 (ht.le (by decide))) kw_540 kw_542 kw_9 kw_20 kw_543 (by decide +kernel) (rl_ok (by omega) (by decide)) hF hz hS (q0 := 0) rfl rfl rfl hl.1 rfl (Nat.le_of_ble_eq_true rfl) dX9_price_15 ⟨Nat.zero_le _, Nat.zero_le _⟩) hS (fun w1 H locs hw1 hS => ?_)
    subst hw1
    refine lv_iload_n hx hb dX9_price_18 rfl (lv_at hl 0 rfl) ?_
    refine lv_iconst (v := 3) hx hb dX9_price_19 (by decide) ?_
    refine lv_iconst (v := 4) hx hb dX9_price_20 (by decide) ?_
    refine m_ci (m_runS (n := 3) (rest := []) ⟨hx, hb, hml, hown, hG⟩ (c_in l X _ (nI 4) 3 4 0) kw_521 kw_522 kw_20 kw_523 (by decide +kernel) (rl_ok (by omega) (by decide)) hF hz hS rfl hl.1 rfl (Nat.le_of_ble_eq_true rfl) dX9_price_21 ⟨Nat.zero_le _, Nat.zero_le _⟩) hS (fun r_2 w2 H locs hw2 hS => ?_)
    obtain ⟨rfl, rfl⟩ := hw2
    refine lv_if_eq (tgt := 33) hx hb dX9_price_24 (by decide) (fun c_3 => absurd c_3 (by decide)) (fun c_3 => ?_)
    refine lv_aload_n hx hb dX9_price_27 rfl (lv_at hl 1 rfl) ?_
    refine lv_bipush (v := 32) hx hb dX9_price_28 (by decide) ?_
    refine m_cv (m_runV (n := 1) (rest := []) ⟨hx, hb, hml, hown, hG⟩ (M_began l X B n wm dy tl g hs rest r (te r [33] t) 32 0 (ht.step (by decide))) kw_540 kw_542 kw_9 kw_20 kw_543 (by decide +kernel) (rl_ok (by omega) (by decide)) hF hz hS (q0 := 0) rfl rfl rfl hl.1 rfl (Nat.le_of_ble_eq_true rfl) dX9_price_30 ⟨Nat.zero_le _, Nat.zero_le _⟩) hS (fun w3 H locs hw3 hS => ?_)
    subst hw3
    rw [te_te] at hS
    refine lv_iload_n hx hb dX9_price_33 rfl (lv_at hl 0 rfl) ?_
    refine lv_bipush (v := 6) hx hb dX9_price_34 (by decide) ?_
    refine lv_icmp_ne (tgt := 45) hx hb dX9_price_36 (by decide) (fun c_4 => ?_) (fun c_4 => absurd c_4 (by decide))
    refine lv_aload_n hx hb dX9_price_45 rfl (lv_at hl 1 rfl) ?_
    refine lv_bipush (v := 31) hx hb dX9_price_46 (by decide) ?_
    refine m_cv (m_runV (n := 1) (rest := []) ⟨hx, hb, hml, hown, hG⟩ (M_began l X B n wm dy tl g hs rest r (te r [33, 32] t) 31 0 (ht.step (by decide))) kw_540 kw_542 kw_9 kw_20 kw_543 (by decide +kernel) (rl_ok (by omega) (by decide)) hF hz hS (q0 := 0) rfl rfl rfl hl.1 rfl (Nat.le_of_ble_eq_true rfl) dX9_price_48 ⟨Nat.zero_le _, Nat.zero_le _⟩) hS (fun w4 H locs hw4 hS => ?_)
    subst hw4
    rw [te_te] at hS
    refine lv_bipush (v := 10) hx hb dX9_price_51 (by decide) ?_
    refine lv_aload_n hx hb dX9_price_53 rfl (lv_at hl 1 rfl) ?_
    refine m_get (v := .ref (B 2)) hx hb hG hown hF hS (0) rfl rfl iG_9 2 (by decide) kw_473 (fun _ h9 => h9) rfl dX9_price_54 ?_
    refine lv_iload_n hx hb dX9_price_57 rfl (lv_at hl 2 rfl) ?_
    refine m_ialdv (v := g j 1) hx hb hF hS (2) rfl (j) rfl (hj) (by decide) rfl dX9_price_58 ?_
    refine lv_iconst (v := 5) hx hb dX9_price_59 (by decide) ?_
    refine lv_idiv hx hb dX9_price_60 (by decide) ?_
    refine lv_iadd hx hb dX9_price_61 ?_
    refine lv_iload_n hx hb dX9_price_62 rfl (lv_at hl 0 rfl) ?_
    refine lv_iconst (v := 3) hx hb dX9_price_63 (by decide) ?_
    refine lv_iconst (v := 4) hx hb dX9_price_64 (by decide) ?_
    refine m_ci (m_runS (n := 3) (rest := [.int (10 + ((g j 1) / 5))]) ⟨hx, hb, hml, hown, hG⟩ (c_in l X _ (nI 4) 3 4 0) kw_521 kw_522 kw_20 kw_523 (by decide +kernel) (rl_ok (by omega) (by decide)) hF hz hS rfl hl.1 rfl (Nat.le_of_ble_eq_true rfl) dX9_price_65 ⟨Nat.zero_le _, Nat.zero_le _⟩) hS (fun r_5 w5 H locs hw5 hS => ?_)
    obtain ⟨rfl, rfl⟩ := hw5
    refine lv_if_eq (tgt := 76) hx hb dX9_price_68 (by decide) (fun c_6 => absurd c_6 (by decide)) (fun c_6 => ?_)
    refine lv_bipush (v := 40) hx hb dX9_price_71 (by decide) ?_
    refine lv_goto (tgt := 77) hx hb dX9_price_73 (by decide) ?_
    refine lv_iadd hx hb dX9_price_77 ?_
    refine lv_istore_n (lv' := [(3, .int ((10 + ((g j 1) / 5)) + 40)), (2, .int (nI 4)), (0, .ref (B 0)), (1, .int (nI j))]) hx hb dX9_price_78 rfl hl (by decide) rfl (fun ls hl => ?_)
    refine lv_iload_n hx hb dX9_price_79 rfl (lv_at hl 1 rfl) ?_
    refine lv_iconst (v := 4) hx hb dX9_price_80 (by decide) ?_
    refine lv_icmp_ne (tgt := 94) hx hb dX9_price_81 (by decide) (fun c_7 => absurd (by decide) c_7) (fun c_7 => ?_)
    refine lv_iload_n hx hb dX9_price_84 rfl (lv_at hl 0 rfl) ?_
    refine lv_aload_n hx hb dX9_price_85 rfl (lv_at hl 2 rfl) ?_
    refine lv_iload_n hx hb dX9_price_86 rfl (lv_at hl 3 rfl) ?_
    refine m_ci (m_runV (n := 1) (rest := [.int ((10 + ((g j 1) / 5)) + 40)]) ⟨hx, hb, hml, hown, hG⟩ (M_need l X B n wm dy tl g hs rest r (te r [33, 32, 31] t) j 4 2 hj ek (by decide) (by decide) (ht.step (by decide))) kw_544 kw_546 kw_10 kw_20 kw_547 (by decide +kernel) (rl_ok (by omega) (by decide)) hF hz hS (q0 := 0) rfl rfl rfl hl.1 rfl (Nat.le_of_ble_eq_true rfl) dX9_price_87 ⟨Nat.zero_le _, Nat.zero_le _⟩) hS (fun r_8 w6 H locs hw6 hS => ?_)
    obtain ⟨rfl, rfl⟩ := hw6
    rw [te_te] at hS
    refine lv_iadd hx hb dX9_price_90 ?_
    refine lv_goto (tgt := 107) hx hb dX9_price_91 (by decide) ?_
    exact m_iret hx hb hr hlk hS ⟨by first | rfl | exact Int32.add_zero _ | (show _ = 2 * _; rw [Int32.add_zero]), rfl⟩ (Nat.le_refl 0) (Nat.le_refl 0) dX9_price_107
  | 5, _, ek =>
    refine lv_aload_n hx hb dX9_price_0 rfl (lv_at hl 0 rfl) ?_
    refine m_get (v := .ref (B 1)) hx hb hG hown hF hS (0) rfl rfl iG_9 1 (by decide) kw_472 (fun _ h9 => h9) rfl dX9_price_1 ?_
    refine lv_iload_n hx hb dX9_price_4 rfl (lv_at hl 1 rfl) ?_
    refine m_ialdv (v := nI 5) hx hb hF hS (1) rfl (j) rfl (hj) (by decide) (ek) dX9_price_5 ?_
    refine lv_istore_n (lv' := [(2, .int (nI 5)), (0, .ref (B 0)), (1, .int (nI j))]) hx hb dX9_price_6 rfl hl (by decide) rfl (fun ls hl => ?_)
    refine lv_iload_n hx hb dX9_price_7 rfl (lv_at hl 0 rfl) ?_
    refine lv_iconst (v := 4) hx hb dX9_price_8 (by decide) ?_
    refine lv_icmp_ne (tgt := 18) hx hb dX9_price_9 (by decide) (fun c_1 => ?_) (fun c_1 => absurd c_1 (by decide))
    refine lv_iload_n hx hb dX9_price_18 rfl (lv_at hl 0 rfl) ?_
    refine lv_iconst (v := 3) hx hb dX9_price_19 (by decide) ?_
    refine lv_iconst (v := 4) hx hb dX9_price_20 (by decide) ?_
    refine m_ci (m_runS (n := 3) (rest := []) ⟨hx, hb, hml, hown, hG⟩ (c_in l X _ (nI 5) 3 4 0) kw_521 kw_522 kw_20 kw_523 (by decide +kernel) (rl_ok (by omega) (by decide)) hF hz hS rfl hl.1 rfl (Nat.le_of_ble_eq_true rfl) dX9_price_21 ⟨Nat.zero_le _, Nat.zero_le _⟩) hS (fun r_2 w1 H locs hw1 hS => ?_)
    obtain ⟨rfl, rfl⟩ := hw1
    refine lv_if_eq (tgt := 33) hx hb dX9_price_24 (by decide) (fun c_3 => ?_) (fun c_3 => absurd (by decide) c_3)
    refine lv_iload_n hx hb dX9_price_33 rfl (lv_at hl 0 rfl) ?_
    refine lv_bipush (v := 6) hx hb dX9_price_34 (by decide) ?_
    refine lv_icmp_ne (tgt := 45) hx hb dX9_price_36 (by decide) (fun c_4 => ?_) (fun c_4 => absurd c_4 (by decide))
    refine lv_aload_n hx hb dX9_price_45 rfl (lv_at hl 1 rfl) ?_
    refine lv_bipush (v := 31) hx hb dX9_price_46 (by decide) ?_
    refine m_cv (m_runV (n := 1) (rest := []) ⟨hx, hb, hml, hown, hG⟩ (M_began l X B n wm dy tl g hs rest r t 31 0 (ht.le (by decide))) kw_540 kw_542 kw_9 kw_20 kw_543 (by decide +kernel) (rl_ok (by omega) (by decide)) hF hz hS (q0 := 0) rfl rfl rfl hl.1 rfl (Nat.le_of_ble_eq_true rfl) dX9_price_48 ⟨Nat.zero_le _, Nat.zero_le _⟩) hS (fun w2 H locs hw2 hS => ?_)
    subst hw2
    refine lv_bipush (v := 10) hx hb dX9_price_51 (by decide) ?_
    refine lv_aload_n hx hb dX9_price_53 rfl (lv_at hl 1 rfl) ?_
    refine m_get (v := .ref (B 2)) hx hb hG hown hF hS (0) rfl rfl iG_9 2 (by decide) kw_473 (fun _ h9 => h9) rfl dX9_price_54 ?_
    refine lv_iload_n hx hb dX9_price_57 rfl (lv_at hl 2 rfl) ?_
    refine m_ialdv (v := g j 1) hx hb hF hS (2) rfl (j) rfl (hj) (by decide) rfl dX9_price_58 ?_
    refine lv_iconst (v := 5) hx hb dX9_price_59 (by decide) ?_
    refine lv_idiv hx hb dX9_price_60 (by decide) ?_
    refine lv_iadd hx hb dX9_price_61 ?_
    refine lv_iload_n hx hb dX9_price_62 rfl (lv_at hl 0 rfl) ?_
    refine lv_iconst (v := 3) hx hb dX9_price_63 (by decide) ?_
    refine lv_iconst (v := 4) hx hb dX9_price_64 (by decide) ?_
    refine m_ci (m_runS (n := 3) (rest := [.int (10 + ((g j 1) / 5))]) ⟨hx, hb, hml, hown, hG⟩ (c_in l X _ (nI 5) 3 4 0) kw_521 kw_522 kw_20 kw_523 (by decide +kernel) (rl_ok (by omega) (by decide)) hF hz hS rfl hl.1 rfl (Nat.le_of_ble_eq_true rfl) dX9_price_65 ⟨Nat.zero_le _, Nat.zero_le _⟩) hS (fun r_5 w3 H locs hw3 hS => ?_)
    obtain ⟨rfl, rfl⟩ := hw3
    refine lv_if_eq (tgt := 76) hx hb dX9_price_68 (by decide) (fun c_6 => ?_) (fun c_6 => absurd (by decide) c_6)
    refine lv_iconst (v := 0) hx hb dX9_price_76 (by decide) ?_
    refine lv_iadd hx hb dX9_price_77 ?_
    refine lv_istore_n (lv' := [(3, .int ((10 + ((g j 1) / 5)) + 0)), (2, .int (nI 5)), (0, .ref (B 0)), (1, .int (nI j))]) hx hb dX9_price_78 rfl hl (by decide) rfl (fun ls hl => ?_)
    refine lv_iload_n hx hb dX9_price_79 rfl (lv_at hl 1 rfl) ?_
    refine lv_iconst (v := 4) hx hb dX9_price_80 (by decide) ?_
    refine lv_icmp_ne (tgt := 94) hx hb dX9_price_81 (by decide) (fun c_7 => ?_) (fun c_7 => absurd c_7 (by decide))
    refine lv_iload_n hx hb dX9_price_94 rfl (lv_at hl 1 rfl) ?_
    refine lv_bipush (v := 6) hx hb dX9_price_95 (by decide) ?_
    refine lv_icmp_ne (tgt := 106) hx hb dX9_price_97 (by decide) (fun c_8 => ?_) (fun c_8 => absurd c_8 (by decide))
    refine lv_iload_n hx hb dX9_price_106 rfl (lv_at hl 0 rfl) ?_
    exact m_iret hx hb hr hlk hS ⟨by first | rfl | exact Int32.add_zero _ | (show _ = 2 * _; rw [Int32.add_zero]), rfl⟩ (Nat.le_refl 0) (Nat.le_refl 0) dX9_price_107
  | 6, _, ek =>
    refine lv_aload_n hx hb dX9_price_0 rfl (lv_at hl 0 rfl) ?_
    refine m_get (v := .ref (B 1)) hx hb hG hown hF hS (0) rfl rfl iG_9 1 (by decide) kw_472 (fun _ h9 => h9) rfl dX9_price_1 ?_
    refine lv_iload_n hx hb dX9_price_4 rfl (lv_at hl 1 rfl) ?_
    refine m_ialdv (v := nI 6) hx hb hF hS (1) rfl (j) rfl (hj) (by decide) (ek) dX9_price_5 ?_
    refine lv_istore_n (lv' := [(2, .int (nI 6)), (0, .ref (B 0)), (1, .int (nI j))]) hx hb dX9_price_6 rfl hl (by decide) rfl (fun ls hl => ?_)
    refine lv_iload_n hx hb dX9_price_7 rfl (lv_at hl 0 rfl) ?_
    refine lv_iconst (v := 4) hx hb dX9_price_8 (by decide) ?_
    refine lv_icmp_ne (tgt := 18) hx hb dX9_price_9 (by decide) (fun c_1 => ?_) (fun c_1 => absurd c_1 (by decide))
    refine lv_iload_n hx hb dX9_price_18 rfl (lv_at hl 0 rfl) ?_
    refine lv_iconst (v := 3) hx hb dX9_price_19 (by decide) ?_
    refine lv_iconst (v := 4) hx hb dX9_price_20 (by decide) ?_
    refine m_ci (m_runS (n := 3) (rest := []) ⟨hx, hb, hml, hown, hG⟩ (c_in l X _ (nI 6) 3 4 0) kw_521 kw_522 kw_20 kw_523 (by decide +kernel) (rl_ok (by omega) (by decide)) hF hz hS rfl hl.1 rfl (Nat.le_of_ble_eq_true rfl) dX9_price_21 ⟨Nat.zero_le _, Nat.zero_le _⟩) hS (fun r_2 w1 H locs hw1 hS => ?_)
    obtain ⟨rfl, rfl⟩ := hw1
    refine lv_if_eq (tgt := 33) hx hb dX9_price_24 (by decide) (fun c_3 => ?_) (fun c_3 => absurd (by decide) c_3)
    refine lv_iload_n hx hb dX9_price_33 rfl (lv_at hl 0 rfl) ?_
    refine lv_bipush (v := 6) hx hb dX9_price_34 (by decide) ?_
    refine lv_icmp_ne (tgt := 45) hx hb dX9_price_36 (by decide) (fun c_4 => absurd (by decide) c_4) (fun c_4 => ?_)
    refine lv_aload_n hx hb dX9_price_39 rfl (lv_at hl 1 rfl) ?_
    refine lv_bipush (v := 34) hx hb dX9_price_40 (by decide) ?_
    refine m_cv (m_runV (n := 1) (rest := []) ⟨hx, hb, hml, hown, hG⟩ (M_began l X B n wm dy tl g hs rest r t 34 0 (ht.le (by decide))) kw_540 kw_542 kw_9 kw_20 kw_543 (by decide +kernel) (rl_ok (by omega) (by decide)) hF hz hS (q0 := 0) rfl rfl rfl hl.1 rfl (Nat.le_of_ble_eq_true rfl) dX9_price_42 ⟨Nat.zero_le _, Nat.zero_le _⟩) hS (fun w2 H locs hw2 hS => ?_)
    subst hw2
    refine lv_aload_n hx hb dX9_price_45 rfl (lv_at hl 1 rfl) ?_
    refine lv_bipush (v := 31) hx hb dX9_price_46 (by decide) ?_
    refine m_cv (m_runV (n := 1) (rest := []) ⟨hx, hb, hml, hown, hG⟩ (M_began l X B n wm dy tl g hs rest r (te r [34] t) 31 0 (ht.step (by decide))) kw_540 kw_542 kw_9 kw_20 kw_543 (by decide +kernel) (rl_ok (by omega) (by decide)) hF hz hS (q0 := 0) rfl rfl rfl hl.1 rfl (Nat.le_of_ble_eq_true rfl) dX9_price_48 ⟨Nat.zero_le _, Nat.zero_le _⟩) hS (fun w3 H locs hw3 hS => ?_)
    subst hw3
    rw [te_te] at hS
    refine lv_bipush (v := 10) hx hb dX9_price_51 (by decide) ?_
    refine lv_aload_n hx hb dX9_price_53 rfl (lv_at hl 1 rfl) ?_
    refine m_get (v := .ref (B 2)) hx hb hG hown hF hS (0) rfl rfl iG_9 2 (by decide) kw_473 (fun _ h9 => h9) rfl dX9_price_54 ?_
    refine lv_iload_n hx hb dX9_price_57 rfl (lv_at hl 2 rfl) ?_
    refine m_ialdv (v := g j 1) hx hb hF hS (2) rfl (j) rfl (hj) (by decide) rfl dX9_price_58 ?_
    refine lv_iconst (v := 5) hx hb dX9_price_59 (by decide) ?_
    refine lv_idiv hx hb dX9_price_60 (by decide) ?_
    refine lv_iadd hx hb dX9_price_61 ?_
    refine lv_iload_n hx hb dX9_price_62 rfl (lv_at hl 0 rfl) ?_
    refine lv_iconst (v := 3) hx hb dX9_price_63 (by decide) ?_
    refine lv_iconst (v := 4) hx hb dX9_price_64 (by decide) ?_
    refine m_ci (m_runS (n := 3) (rest := [.int (10 + ((g j 1) / 5))]) ⟨hx, hb, hml, hown, hG⟩ (c_in l X _ (nI 6) 3 4 0) kw_521 kw_522 kw_20 kw_523 (by decide +kernel) (rl_ok (by omega) (by decide)) hF hz hS rfl hl.1 rfl (Nat.le_of_ble_eq_true rfl) dX9_price_65 ⟨Nat.zero_le _, Nat.zero_le _⟩) hS (fun r_5 w4 H locs hw4 hS => ?_)
    obtain ⟨rfl, rfl⟩ := hw4
    refine lv_if_eq (tgt := 76) hx hb dX9_price_68 (by decide) (fun c_6 => ?_) (fun c_6 => absurd (by decide) c_6)
    refine lv_iconst (v := 0) hx hb dX9_price_76 (by decide) ?_
    refine lv_iadd hx hb dX9_price_77 ?_
    refine lv_istore_n (lv' := [(3, .int ((10 + ((g j 1) / 5)) + 0)), (2, .int (nI 6)), (0, .ref (B 0)), (1, .int (nI j))]) hx hb dX9_price_78 rfl hl (by decide) rfl (fun ls hl => ?_)
    refine lv_iload_n hx hb dX9_price_79 rfl (lv_at hl 1 rfl) ?_
    refine lv_iconst (v := 4) hx hb dX9_price_80 (by decide) ?_
    refine lv_icmp_ne (tgt := 94) hx hb dX9_price_81 (by decide) (fun c_7 => ?_) (fun c_7 => absurd c_7 (by decide))
    refine lv_iload_n hx hb dX9_price_94 rfl (lv_at hl 1 rfl) ?_
    refine lv_bipush (v := 6) hx hb dX9_price_95 (by decide) ?_
    refine lv_icmp_ne (tgt := 106) hx hb dX9_price_97 (by decide) (fun c_8 => absurd (by decide) c_8) (fun c_8 => ?_)
    refine lv_iconst (v := 2) hx hb dX9_price_100 (by decide) ?_
    refine lv_iload_n hx hb dX9_price_101 rfl (lv_at hl 0 rfl) ?_
    refine lv_imul hx hb dX9_price_102 ?_
    refine lv_goto (tgt := 107) hx hb dX9_price_103 (by decide) ?_
    exact m_iret hx hb hr hlk hS ⟨by first | rfl | exact Int32.add_zero _ | (show _ = 2 * _; rw [Int32.add_zero]), rfl⟩ (Nat.le_refl 0) (Nat.le_refl 0) dX9_price_107
set_option maxHeartbeats 4000000 in
set_option maxRecDepth 100000 in
theorem M_keeps (l : Launch) (X : Cx) (B : Nat → Nat) (n : Nat) (wm dy tl : Int32) (g : Nat → Rc) (hs : Nat → Int32) (rest : va_W) (r : Bool) (t : Tr) (j k f : Nat) (hj : j < 40) (ek : g j 0 = nI k) (h1 : 2 ≤ k) (hk : k < 5) (hf : 4 ≤ f) (ht : tR r 10 t) : cI l yX9_keeps cX9_keeps 2 (some .int) (rl f) X [.ref (B 0), .int (nI j)] (wM X B n wm dy tl g hs rest r t) (fun v w' => v = keepsV k (g j 1) ∧ w' = wM X B n wm dy tl g hs rest r (te r (keepsT k) t)) := by
  refine met_start (by decide) (Nat.le_of_ble_eq_true rfl) ?_
  intro p e s m below meth c ls fx hS hl
  obtain ⟨hx, hb, hr, hml, hown, hG, hlk, hF, hz, hnm⟩ := fx
  have hown : s.vm.findClass RX9 = some m.cls := hown
  have hl : lv_has ls 2 [(0, .ref (B 0)), (1, .int (nI j))] := hl
  match k, h1, hk, ek with
  | 2, _, _, ek =>
    refine lv_aload_n hx hb dX9_keeps_0 rfl (lv_at hl 0 rfl) ?_
    refine m_get (v := .ref (B 1)) hx hb hG hown hF hS (0) rfl rfl iG_9 1 (by decide) kw_472 (fun _ h9 => h9) rfl dX9_keeps_1 ?_
    refine lv_iload_n hx hb dX9_keeps_4 rfl (lv_at hl 1 rfl) ?_
    refine m_ialdv (v := nI 2) hx hb hF hS (1) rfl (j) rfl (hj) (by decide) (ek) dX9_keeps_5 ?_
    refine lv_iconst (v := 4) hx hb dX9_keeps_6 (by decide) ?_
    refine lv_icmp_ne (tgt := 27) hx hb dX9_keeps_7 (by decide) (fun c_1 => ?_) (fun c_1 => absurd c_1 (by decide))
    refine lv_aload_n hx hb dX9_keeps_27 rfl (lv_at hl 0 rfl) ?_
    refine lv_bipush (v := 41) hx hb dX9_keeps_28 (by decide) ?_
    refine m_cv (m_runV (n := 1) (rest := []) ⟨hx, hb, hml, hown, hG⟩ (M_began l X B n wm dy tl g hs rest r t 41 0 (ht.le (by decide))) kw_540 kw_542 kw_9 kw_20 kw_543 (by decide +kernel) (rl_ok (by omega) (by decide)) hF hz hS (q0 := 0) rfl rfl rfl hl.1 rfl (Nat.le_of_ble_eq_true rfl) dX9_keeps_30 ⟨Nat.zero_le _, Nat.zero_le _⟩) hS (fun w1 H locs hw1 hS => ?_)
    subst hw1
    refine lv_iconst (v := 1) hx hb dX9_keeps_33 (by decide) ?_
    refine lv_aload_n hx hb dX9_keeps_34 rfl (lv_at hl 0 rfl) ?_
    refine lv_iload_n hx hb dX9_keeps_35 rfl (lv_at hl 1 rfl) ?_
    refine m_ci (m_runV (n := 1) (rest := [.int 1]) ⟨hx, hb, hml, hown, hG⟩ (M_need l X B n wm dy tl g hs rest r (te r [41] t) j 2 2 hj ek (by decide) (by decide) (ht.step (by decide))) kw_544 kw_546 kw_10 kw_20 kw_547 (by decide +kernel) (rl_ok (by omega) (by decide)) hF hz hS (q0 := 0) rfl rfl rfl hl.1 rfl (Nat.le_of_ble_eq_true rfl) dX9_keeps_36 ⟨Nat.zero_le _, Nat.zero_le _⟩) hS (fun r_2 w2 H locs hw2 hS => ?_)
    obtain ⟨rfl, rfl⟩ := hw2
    rw [te_te] at hS
    refine lv_bipush (v := 100) hx hb dX9_keeps_39 (by decide) ?_
    refine lv_idiv hx hb dX9_keeps_41 (by decide) ?_
    refine lv_iadd hx hb dX9_keeps_42 ?_
    exact m_iret hx hb hr hlk hS ⟨by first | rfl | exact Int32.add_zero _ | (show _ = 2 * _; rw [Int32.add_zero]), rfl⟩ (Nat.le_refl 0) (Nat.le_refl 0) dX9_keeps_43
  | 3, _, _, ek =>
    refine lv_aload_n hx hb dX9_keeps_0 rfl (lv_at hl 0 rfl) ?_
    refine m_get (v := .ref (B 1)) hx hb hG hown hF hS (0) rfl rfl iG_9 1 (by decide) kw_472 (fun _ h9 => h9) rfl dX9_keeps_1 ?_
    refine lv_iload_n hx hb dX9_keeps_4 rfl (lv_at hl 1 rfl) ?_
    refine m_ialdv (v := nI 3) hx hb hF hS (1) rfl (j) rfl (hj) (by decide) (ek) dX9_keeps_5 ?_
    refine lv_iconst (v := 4) hx hb dX9_keeps_6 (by decide) ?_
    refine lv_icmp_ne (tgt := 27) hx hb dX9_keeps_7 (by decide) (fun c_1 => ?_) (fun c_1 => absurd c_1 (by decide))
    refine lv_aload_n hx hb dX9_keeps_27 rfl (lv_at hl 0 rfl) ?_
    refine lv_bipush (v := 41) hx hb dX9_keeps_28 (by decide) ?_
    refine m_cv (m_runV (n := 1) (rest := []) ⟨hx, hb, hml, hown, hG⟩ (M_began l X B n wm dy tl g hs rest r t 41 0 (ht.le (by decide))) kw_540 kw_542 kw_9 kw_20 kw_543 (by decide +kernel) (rl_ok (by omega) (by decide)) hF hz hS (q0 := 0) rfl rfl rfl hl.1 rfl (Nat.le_of_ble_eq_true rfl) dX9_keeps_30 ⟨Nat.zero_le _, Nat.zero_le _⟩) hS (fun w1 H locs hw1 hS => ?_)
    subst hw1
    refine lv_iconst (v := 1) hx hb dX9_keeps_33 (by decide) ?_
    refine lv_aload_n hx hb dX9_keeps_34 rfl (lv_at hl 0 rfl) ?_
    refine lv_iload_n hx hb dX9_keeps_35 rfl (lv_at hl 1 rfl) ?_
    refine m_ci (m_runV (n := 1) (rest := [.int 1]) ⟨hx, hb, hml, hown, hG⟩ (M_need l X B n wm dy tl g hs rest r (te r [41] t) j 3 2 hj ek (by decide) (by decide) (ht.step (by decide))) kw_544 kw_546 kw_10 kw_20 kw_547 (by decide +kernel) (rl_ok (by omega) (by decide)) hF hz hS (q0 := 0) rfl rfl rfl hl.1 rfl (Nat.le_of_ble_eq_true rfl) dX9_keeps_36 ⟨Nat.zero_le _, Nat.zero_le _⟩) hS (fun r_2 w2 H locs hw2 hS => ?_)
    obtain ⟨rfl, rfl⟩ := hw2
    rw [te_te] at hS
    refine lv_bipush (v := 100) hx hb dX9_keeps_39 (by decide) ?_
    refine lv_idiv hx hb dX9_keeps_41 (by decide) ?_
    refine lv_iadd hx hb dX9_keeps_42 ?_
    exact m_iret hx hb hr hlk hS ⟨by first | rfl | exact Int32.add_zero _ | (show _ = 2 * _; rw [Int32.add_zero]), rfl⟩ (Nat.le_refl 0) (Nat.le_refl 0) dX9_keeps_43
  | 4, _, _, ek =>
    refine lv_aload_n hx hb dX9_keeps_0 rfl (lv_at hl 0 rfl) ?_
    refine m_get (v := .ref (B 1)) hx hb hG hown hF hS (0) rfl rfl iG_9 1 (by decide) kw_472 (fun _ h9 => h9) rfl dX9_keeps_1 ?_
    refine lv_iload_n hx hb dX9_keeps_4 rfl (lv_at hl 1 rfl) ?_
    refine m_ialdv (v := nI 4) hx hb hF hS (1) rfl (j) rfl (hj) (by decide) (ek) dX9_keeps_5 ?_
    refine lv_iconst (v := 4) hx hb dX9_keeps_6 (by decide) ?_
    refine lv_icmp_ne (tgt := 27) hx hb dX9_keeps_7 (by decide) (fun c_1 => absurd (by decide) c_1) (fun c_1 => ?_)
    refine lv_aload_n hx hb dX9_keeps_10 rfl (lv_at hl 0 rfl) ?_
    refine lv_bipush (v := 42) hx hb dX9_keeps_11 (by decide) ?_
    refine m_cv (m_runV (n := 1) (rest := []) ⟨hx, hb, hml, hown, hG⟩ (M_began l X B n wm dy tl g hs rest r t 42 0 (ht.le (by decide))) kw_540 kw_542 kw_9 kw_20 kw_543 (by decide +kernel) (rl_ok (by omega) (by decide)) hF hz hS (q0 := 0) rfl rfl rfl hl.1 rfl (Nat.le_of_ble_eq_true rfl) dX9_keeps_13 ⟨Nat.zero_le _, Nat.zero_le _⟩) hS (fun w1 H locs hw1 hS => ?_)
    subst hw1
    refine lv_aload_n hx hb dX9_keeps_16 rfl (lv_at hl 0 rfl) ?_
    refine lv_iload_n hx hb dX9_keeps_17 rfl (lv_at hl 1 rfl) ?_
    refine m_ci (m_runV (n := 1) (rest := []) ⟨hx, hb, hml, hown, hG⟩ (M_price l X B n wm dy tl g hs rest r (te r [42] t) j 4 3 hj ek (by decide) (by decide) (ht.step (by decide))) kw_552 kw_554 kw_12 kw_20 kw_555 (by decide +kernel) (rl_ok (by omega) (by decide)) hF hz hS (q0 := 0) rfl rfl rfl hl.1 rfl (Nat.le_of_ble_eq_true rfl) dX9_keeps_18 ⟨Nat.zero_le _, Nat.zero_le _⟩) hS (fun r_2 w2 H locs hw2 hS => ?_)
    obtain ⟨rfl, rfl⟩ := hw2
    rw [te_te] at hS
    refine lv_bipush (v := 50) hx hb dX9_keeps_21 (by decide) ?_
    refine lv_idiv hx hb dX9_keeps_23 (by decide) ?_
    refine lv_iconst (v := 2) hx hb dX9_keeps_24 (by decide) ?_
    refine lv_iadd hx hb dX9_keeps_25 ?_
    exact m_iret hx hb hr hlk hS ⟨by first | rfl | exact Int32.add_zero _ | (show _ = 2 * _; rw [Int32.add_zero]), rfl⟩ (Nat.le_refl 0) (Nat.le_refl 0) dX9_keeps_26
set_option maxHeartbeats 4000000 in
set_option maxRecDepth 100000 in
theorem M_glaze (l : Launch) (X : Cx) (B : Nat → Nat) (n : Nat) (wm dy tl : Int32) (g : Nat → Rc) (hs : Nat → Int32) (rest : va_W) (r : Bool) (t : Tr) (j k f : Nat) (hj : j < 40) (ek : g j 0 = nI k) (h1 : 5 ≤ k) (hk : k < 7) (hf : 4 ≤ f) (ht : tR r 10 t) : cI l yX9_glaze cX9_glaze 2 (some .int) (rl f) X [.ref (B 0), .int (nI j)] (wM X B n wm dy tl g hs rest r t) (fun v w' => v = glazeV k (g j 1) ∧ w' = wM X B n wm dy tl g hs rest r (te r (glazeT k) t)) := by
  refine met_start (by decide) (Nat.le_of_ble_eq_true rfl) ?_
  intro p e s m below meth c ls fx hS hl
  obtain ⟨hx, hb, hr, hml, hown, hG, hlk, hF, hz, hnm⟩ := fx
  have hown : s.vm.findClass RX9 = some m.cls := hown
  have hl : lv_has ls 2 [(0, .ref (B 0)), (1, .int (nI j))] := hl
  match k, h1, hk, ek with
  | 5, _, _, ek =>
    refine lv_aload_n hx hb dX9_glaze_0 rfl (lv_at hl 0 rfl) ?_
    refine m_get (v := .ref (B 1)) hx hb hG hown hF hS (0) rfl rfl iG_9 1 (by decide) kw_472 (fun _ h9 => h9) rfl dX9_glaze_1 ?_
    refine lv_iload_n hx hb dX9_glaze_4 rfl (lv_at hl 1 rfl) ?_
    refine m_ialdv (v := nI 5) hx hb hF hS (1) rfl (j) rfl (hj) (by decide) (ek) dX9_glaze_5 ?_
    refine lv_bipush (v := 6) hx hb dX9_glaze_6 (by decide) ?_
    refine lv_icmp_ne (tgt := 29) hx hb dX9_glaze_8 (by decide) (fun c_1 => ?_) (fun c_1 => absurd c_1 (by decide))
    refine lv_aload_n hx hb dX9_glaze_29 rfl (lv_at hl 0 rfl) ?_
    refine lv_bipush (v := 51) hx hb dX9_glaze_30 (by decide) ?_
    refine m_cv (m_runV (n := 1) (rest := []) ⟨hx, hb, hml, hown, hG⟩ (M_began l X B n wm dy tl g hs rest r t 51 0 (ht.le (by decide))) kw_540 kw_542 kw_9 kw_20 kw_543 (by decide +kernel) (rl_ok (by omega) (by decide)) hF hz hS (q0 := 0) rfl rfl rfl hl.1 rfl (Nat.le_of_ble_eq_true rfl) dX9_glaze_32 ⟨Nat.zero_le _, Nat.zero_le _⟩) hS (fun w1 H locs hw1 hS => ?_)
    subst hw1
    refine lv_aload_n hx hb dX9_glaze_35 rfl (lv_at hl 0 rfl) ?_
    refine lv_iload_n hx hb dX9_glaze_36 rfl (lv_at hl 1 rfl) ?_
    refine m_ci (m_runV (n := 1) (rest := []) ⟨hx, hb, hml, hown, hG⟩ (M_price l X B n wm dy tl g hs rest r (te r [51] t) j 5 3 hj ek (by decide) (by decide) (ht.step (by decide))) kw_552 kw_554 kw_12 kw_20 kw_555 (by decide +kernel) (rl_ok (by omega) (by decide)) hF hz hS (q0 := 0) rfl rfl rfl hl.1 rfl (Nat.le_of_ble_eq_true rfl) dX9_glaze_37 ⟨Nat.zero_le _, Nat.zero_le _⟩) hS (fun r_2 w2 H locs hw2 hS => ?_)
    obtain ⟨rfl, rfl⟩ := hw2
    rw [te_te] at hS
    refine lv_bipush (v := 10) hx hb dX9_glaze_40 (by decide) ?_
    refine lv_idiv hx hb dX9_glaze_42 (by decide) ?_
    refine lv_iconst (v := 5) hx hb dX9_glaze_43 (by decide) ?_
    refine lv_iadd hx hb dX9_glaze_44 ?_
    exact m_iret hx hb hr hlk hS ⟨by first | rfl | exact Int32.add_zero _ | (show _ = 2 * _; rw [Int32.add_zero]), rfl⟩ (Nat.le_refl 0) (Nat.le_refl 0) dX9_glaze_45
  | 6, _, _, ek =>
    refine lv_aload_n hx hb dX9_glaze_0 rfl (lv_at hl 0 rfl) ?_
    refine m_get (v := .ref (B 1)) hx hb hG hown hF hS (0) rfl rfl iG_9 1 (by decide) kw_472 (fun _ h9 => h9) rfl dX9_glaze_1 ?_
    refine lv_iload_n hx hb dX9_glaze_4 rfl (lv_at hl 1 rfl) ?_
    refine m_ialdv (v := nI 6) hx hb hF hS (1) rfl (j) rfl (hj) (by decide) (ek) dX9_glaze_5 ?_
    refine lv_bipush (v := 6) hx hb dX9_glaze_6 (by decide) ?_
    refine lv_icmp_ne (tgt := 29) hx hb dX9_glaze_8 (by decide) (fun c_1 => absurd (by decide) c_1) (fun c_1 => ?_)
    refine lv_aload_n hx hb dX9_glaze_11 rfl (lv_at hl 0 rfl) ?_
    refine lv_bipush (v := 52) hx hb dX9_glaze_12 (by decide) ?_
    refine m_cv (m_runV (n := 1) (rest := []) ⟨hx, hb, hml, hown, hG⟩ (M_began l X B n wm dy tl g hs rest r t 52 0 (ht.le (by decide))) kw_540 kw_542 kw_9 kw_20 kw_543 (by decide +kernel) (rl_ok (by omega) (by decide)) hF hz hS (q0 := 0) rfl rfl rfl hl.1 rfl (Nat.le_of_ble_eq_true rfl) dX9_glaze_14 ⟨Nat.zero_le _, Nat.zero_le _⟩) hS (fun w1 H locs hw1 hS => ?_)
    subst hw1
    refine lv_aload_n hx hb dX9_glaze_17 rfl (lv_at hl 0 rfl) ?_
    refine lv_iload_n hx hb dX9_glaze_18 rfl (lv_at hl 1 rfl) ?_
    refine lv_sipush (v := 200) hx hb dX9_glaze_19 (by decide) ?_
    refine m_ci (m_runV (n := 2) (rest := []) ⟨hx, hb, hml, hown, hG⟩ (M_brown l X B n wm dy tl g hs rest r (te r [52] t) j 6 200 1 hj ek (by decide) (by decide) (ht.step (by decide))) kw_548 kw_550 kw_11 kw_20 kw_551 (by decide +kernel) (rl_ok (by omega) (by decide)) hF hz hS (q0 := 0) rfl rfl rfl hl.1 rfl (Nat.le_of_ble_eq_true rfl) dX9_glaze_22 ⟨Nat.zero_le _, Nat.zero_le _⟩) hS (fun r_2 w2 H locs hw2 hS => ?_)
    obtain ⟨rfl, rfl⟩ := hw2
    rw [te_te] at hS
    refine lv_bipush (v := 20) hx hb dX9_glaze_25 (by decide) ?_
    refine lv_iadd hx hb dX9_glaze_27 ?_
    exact m_iret hx hb hr hlk hS ⟨by first | rfl | exact Int32.add_zero _ | (show _ = 2 * _; rw [Int32.add_zero]), rfl⟩ (Nat.le_refl 0) (Nat.le_refl 0) dX9_glaze_28
set_option maxHeartbeats 4000000 in
set_option maxRecDepth 100000 in
theorem M_isKeeping (l : Launch) (X : Cx) (ws : va_W) (k : Int32) (f : Nat) (hf : 1 ≤ f) : cI l yX9_isKeeping cX9_isKeeping 1 (some .boolean) (rl f) X [.int k] ws (fun v w => v = inB k 2 4 ∧ w = ws) := by
  refine met_start (by decide) (Nat.le_of_ble_eq_true rfl) ?_
  intro p e s m below meth c ls fx hS hl
  obtain ⟨hx, hb, hr, hml, hown, hG, hlk, hF, hz, hnm⟩ := fx
  have hown : s.vm.findClass RX9 = some m.cls := hown
  have hl : lv_has ls 1 [(0, .int k)] := hl
  refine lv_iload_n hx hb dX9_isKeeping_0 rfl (lv_at hl 0 rfl) ?_
  refine lv_iconst (v := 2) hx hb dX9_isKeeping_1 (by decide) ?_
  refine lv_iconst (v := 4) hx hb dX9_isKeeping_2 (by decide) ?_
  refine m_ci (m_runS (n := 3) (rest := []) ⟨hx, hb, hml, hown, hG⟩ (c_in l X ws k 2 4 0) kw_521 kw_522 kw_20 kw_523 (by decide +kernel) (rl_ok (by omega) (by decide)) hF hz hS rfl hl.1 rfl (Nat.le_of_ble_eq_true rfl) dX9_isKeeping_3 ⟨Nat.zero_le _, Nat.zero_le _⟩) hS (fun r_1 w1 H locs hw1 hS => ?_)
  obtain ⟨rfl, e2⟩ := hw1
  rw [e2] at hS
  exact m_zret hx hb hr (inB_nar _ _ _) hlk hS ⟨rfl, rfl⟩ (Nat.le_refl 0) (Nat.le_refl 0) dX9_isKeeping_6
set_option maxHeartbeats 4000000 in
set_option maxRecDepth 100000 in
theorem M_isGlazed (l : Launch) (X : Cx) (ws : va_W) (k : Int32) (f : Nat) : cI l yX9_isGlazed cX9_isGlazed 1 (some .boolean) (rl f) X [.int k] ws (fun v w => v = (if k ≤ 4 then 0 else 1) ∧ w = ws) := by
  refine met_start (by decide) (Nat.le_of_ble_eq_true rfl) ?_
  intro p e s m below meth c ls fx hS hl
  obtain ⟨hx, hb, hr, hml, hown, hG, hlk, hF, hz, hnm⟩ := fx
  have hown : s.vm.findClass RX9 = some m.cls := hown
  have hl : lv_has ls 1 [(0, .int k)] := hl
  refine lv_iload_n hx hb dX9_isGlazed_0 rfl (lv_at hl 0 rfl) ?_
  refine lv_iconst (v := 4) hx hb dX9_isGlazed_1 (by decide) ?_
  refine lv_icmp_le (tgt := 9) hx hb dX9_isGlazed_2 (by decide) (fun c_1 => ?_) (fun c_1 => ?_)
  · refine lv_iconst (v := 0) hx hb dX9_isGlazed_9 (by decide) ?_
    exact m_zret hx hb hr (by decide) hlk hS (⟨by rw [if_pos c_1], rfl⟩) (Nat.le_refl 0) (Nat.le_refl 0) dX9_isGlazed_10
  · refine lv_iconst (v := 1) hx hb dX9_isGlazed_5 (by decide) ?_
    refine lv_goto (tgt := 10) hx hb dX9_isGlazed_6 (by decide) ?_
    exact m_zret hx hb hr (by decide) hlk hS (⟨by rw [if_neg c_1], rfl⟩) (Nat.le_refl 0) (Nat.le_refl 0) dX9_isGlazed_10
theorem keep_yes {k : Nat} (h1 : 2 ≤ k) (h2 : k < 5) : inB (nI k) 2 4 = 1 := inB_yes (nI_nlt (b := 2) h1 (by omega)) (nI_nlt (a := 4) (b := k) (by omega) (by omega))
theorem keep_no {k : Nat} (h : ¬ (2 ≤ k ∧ k < 5)) (hk : k < 7) : inB (nI k) 2 4 = 0 := by
  rcases Nat.lt_or_ge k 2 with h1 | h1
  · exact inB_no (Or.inl (nI_lt (b := 2) h1 (by omega)))
  · exact inB_no (Or.inr (nI_lt (a := 4) (Nat.lt_of_not_le (fun q => h ⟨h1, by omega⟩)) (by omega)))
theorem glaz_yes {k : Nat} (h1 : 5 ≤ k) (hk : k < 7) : (if nI k ≤ 4 then (0 : Int32) else 1) = 1 := if_neg (nI_ge (a := 4) (b := k) (by omega) (by omega))
theorem glaz_no {k : Nat} (h1 : ¬ 5 ≤ k) : (if nI k ≤ 4 then (0 : Int32) else 1) = 0 := if_pos (nI_le (a := k) (b := 4) (by omega) (by omega))
