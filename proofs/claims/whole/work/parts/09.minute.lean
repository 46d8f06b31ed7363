theorem list_set_same {α : Type} : ∀ {l : List α} {i : Nat} {x : α}, l[i]? = some x → l.set i x = l
  | [], _, _, h => by simp at h
  | a :: l, 0, x, h => by
    have : a = x := by simpa using h
    rw [this]; rfl
  | a :: l, i + 1, x, h => by
    have h2 : l[i]? = some x := by simpa using h
    show a :: l.set i x = a :: l
    rw [list_set_same h2]
theorem kset_self {K : KT} {i : Nat} {x : Nat × va_E} (h : (kP K)[i]? = some x) : kset K i x = K := by
  show (K.1, K.2.1, K.2.2.1, K.2.2.2.1, K.2.2.2.2.1, K.2.2.2.2.2.1, K.2.2.2.2.2.2.1, K.2.2.2.2.2.2.2.1, (kP K).set i x) = K
  rw [list_set_same h]
theorem kset_at {K : KT} {i : Nat} {x y : Nat × va_E} (h : (kP K)[i]? = some x) : (kP (kset K i y))[i]? = some y := by
  show ((kP K).set i y)[i]? = some y
  exact List.getElem?_set_self (List.getElem?_eq_some_iff.mp h).1
theorem kset_kset {K : KT} {i : Nat} {x y : Nat × va_E} : kset (kset K i x) i y = kset K i y := by
  show (K.1, K.2.1, K.2.2.1, K.2.2.2.1, K.2.2.2.2.1, K.2.2.2.2.2.1, K.2.2.2.2.2.2.1, K.2.2.2.2.2.2.2.1, ((kP K).set i x).set i y) = _
  rw [List.set_set]; rfl
/-- one minute of one that rises, of one in an oven -/
def stepR (w : Int32) (rc : Rc) : Rc := if rc 4 + riseV (kd rc) w ≤ 2 * needV (kd rc) (rc 1) then va_up rc 4 (rc 4 + riseV (kd rc) w) else va_up (va_up rc 4 (rc 4 + riseV (kd rc) w)) 3 4
def stepB (h : Int32) (rc : Rc) : Rc := if rc 5 + brownV (kd rc) h ≤ 100 then va_up rc 5 (rc 5 + brownV (kd rc) h) else va_up (va_up rc 5 (rc 5 + brownV (kd rc) h)) 3 4
def riseN (w : Int32) : Nat → Rc → Rc
  | 0, rc => rc
  | n + 1, rc => if rc 3 = 0 then riseN w n (stepR w rc) else rc
def brownN (h : Int32) : Nat → Rc → Rc
  | 0, rc => rc
  | n + 1, rc => if rc 3 = 1 then brownN h n (stepB h rc) else rc
theorem riseN_0 {w : Int32} {n : Nat} {rc : Rc} (h : ¬ rc 3 = 0) : riseN w n rc = rc := by
  cases n
  · rfl
  · rw [riseN, if_neg h]
theorem brownN_0 {w : Int32} {n : Nat} {rc : Rc} (h : ¬ rc 3 = 1) : brownN w n rc = rc := by
  cases n
  · rfl
  · rw [brownN, if_neg h]
set_option maxHeartbeats 4000000 in
set_option maxRecDepth 100000 in
theorem rf_loop {p : Program} {l : Launch} {e : Env} {R : Room} {s : State} {m : MethodId} {args : Array Value} {below : List Frame} {meth : Method} {c : Code} {X : Cx} {r : Bool} {t : Tr} {h i N : Nat} {w more most : Int32} {P : va_W → Prop} (hN : N < 1000) (hx : p.tables.exec = Jvm.exec) (hb : c.code = cX2_riseFor) (hr : meth.sig.returnType = none) (hml : c.maxLocals = 6) (hown : s.vm.findClass RX2 = some m.cls) (hG : ∀ w ∈ G, w.before args s = true) (hlk : meth.locks = false) (hF : mF X s) (hz : X.2.2.2 ≤ s.heap.size) : ∀ (d : Nat) (K : KT) (rc : Rc) (j : Nat) (x : Int32) (H : Heap) (locs : List Loc) (ls : Array Slot), (kP K)[i]? = some (h, dE (kA K 3) rc) → kd rc < 7 → x = nI j → j + d = N → mS X s (wT X K r t) H locs → lv_has ls 6 [(5, .int x), (0, .ref h), (1, .int (nI N)), (3, .int more), (4, .int most)] → more = riseV (kd rc) w → most = 2 * needV (kd rc) (rc 1) → P (wT X (kset K i (h, dE (kA K 3) (riseN w d rc))) r t) → W p l e R s m args below meth c H locs 0 0 (MQ below (va_Qv P (fun w t => mH X w t.heap) (xA X)) args s 0 0 (xA X)) (F0 m 17 ls []) := by
  intro d
  induction d with
  | zero =>
    intro K rc j x H locs ls hi hk ex hd hS hl hmore hmost hP
    refine lv_iload hx hb dX2_riseFor_17 (lv_at hl 0 rfl) ?_
    refine lv_iload_n hx hb dX2_riseFor_19 rfl (lv_at hl 2 rfl) ?_
    refine lv_icmp_ge (tgt := 60) hx hb dX2_riseFor_20 (by decide) (fun c_1 => ?_) (fun c_1 => absurd (by rw [ex]; exact nI_le (by omega) (by omega)) c_1)
    exact m_vret hx hb hr hlk hS (by have hP : P (wT X (kset K i (h, dE (kA K 3) rc)) r t) := hP; rw [kset_self hi] at hP; exact hP) (Nat.le_refl 0) (Nat.le_refl 0) dX2_riseFor_60
  | succ d ih =>
    intro K rc j x H locs ls hi hk ex hd hS hl hmore hmost hP
    refine lv_iload hx hb dX2_riseFor_17 (lv_at hl 0 rfl) ?_
    refine lv_iload_n hx hb dX2_riseFor_19 rfl (lv_at hl 2 rfl) ?_
    refine lv_icmp_ge (tgt := 60) hx hb dX2_riseFor_20 (by decide) (fun c_2 => absurd c_2 (by rw [ex]; exact nI_ge (by omega) (by omega))) (fun c_2 => ?_)
    refine lv_aload_n hx hb dX2_riseFor_23 rfl (lv_at hl 1 rfl) ?_
    refine m_get hx hb hG hown hF hS (i + 15) (wT_at hi) (kd_cls hk).1 (kd_cls hk).2 3 (by decide) kw_115 (fun _ h9 => h9) rfl dX2_riseFor_24 ?_
    refine lv_if_ne (tgt := 60) hx hb dX2_riseFor_27 (by decide) (fun c_3 => ?_) (fun c_3 => ?_)
    · exact m_vret hx hb hr hlk hS (by rw [riseN_0 c_3, kset_self hi] at hP; exact hP) (Nat.le_refl 0) (Nat.le_refl 0) dX2_riseFor_60
    · rw [riseN, if_pos c_3] at hP
      refine lv_aload_n hx hb dX2_riseFor_30 rfl (lv_at hl 1 rfl) ?_
      refine lv_dup hx hb dX2_riseFor_31 rfl ?_
      refine m_get hx hb hG hown hF hS (i + 15) (wT_at hi) (kd_cls hk).1 (kd_cls hk).2 4 (by decide) kw_117 (fun _ h9 => h9) rfl dX2_riseFor_32 ?_
      refine lv_iload_n hx hb dX2_riseFor_35 rfl (lv_at hl 3 rfl) ?_
      refine lv_iadd hx hb dX2_riseFor_36 ?_
      refine m_put hx hb hG hown hF hS (i + 15) (wT_at hi) (kd_cls hk).1 (kd_cls hk).2 tyX2_ok nmX2 4 (by decide) kw_117 (fun _ h9 => h9) rfl rfl rfl (Nat.le_of_ble_eq_true rfl) (wT X (kset K i (h, dE (kA K 3) (va_up rc 4 ((rc 4) + more)))) r t) rfl dX2_riseFor_37 (fun H locs hS => ?_)
      have hi2 : (kP (kset K i (h, dE (kA K 3) (va_up rc 4 ((rc 4) + more)))))[i]? = some (h, dE (kA K 3) (va_up rc 4 ((rc 4) + more))) := kset_at hi
      refine lv_aload_n hx hb dX2_riseFor_40 rfl (lv_at hl 1 rfl) ?_
      refine m_get hx hb hG hown hF hS (i + 15) (wT_at hi2) (kd_cls hk).1 (kd_cls hk).2 4 (by decide) kw_117 (fun _ h9 => h9) rfl dX2_riseFor_41 ?_
      refine lv_iload hx hb dX2_riseFor_44 (lv_at hl 4 rfl) ?_
      refine lv_icmp_le (tgt := 54) hx hb dX2_riseFor_46 (by decide) (fun c_4 => ?_) (fun c_4 => ?_)
      · rw [stepR, if_pos (by rw [← hmore, ← hmost]; exact c_4)] at hP
        obtain ⟨x_5, ex_5⟩ : ∃ y : Int32, y = x + 1 := ⟨_, rfl⟩
        refine lv_iinc (v := x_5) (lv' := [(5, .int x_5), (0, .ref h), (1, .int (nI N)), (3, .int more), (4, .int most)]) hx hb dX2_riseFor_54 hl (k := 0) rfl (by rw [ex_5]; rfl) (by decide) rfl (fun ls hl => ?_)
        refine lv_goto (tgt := 17) hx hb dX2_riseFor_57 (by decide) ?_
        exact ih (kset K i (h, dE (kA K 3) (va_up rc 4 ((rc 4) + more)))) (va_up rc 4 ((rc 4) + more)) (j + 1) x_5 _ _ _ hi2 hk (by rw [ex_5, ex]; exact nI_1 j) (by omega) hS (lv_sub hl [0, 1, 2, 3, 4] rfl) hmore hmost (by rw [kset_kset, hmore]; exact hP)
      · rw [stepR, if_neg (by rw [← hmore, ← hmost]; exact c_4)] at hP
        refine lv_aload_n hx hb dX2_riseFor_49 rfl (lv_at hl 1 rfl) ?_
        refine lv_iconst (v := 4) hx hb dX2_riseFor_50 (by decide) ?_
        refine m_put hx hb hG hown hF hS (i + 15) (wT_at hi2) (kd_cls hk).1 (kd_cls hk).2 tyX2_ok nmX2 3 (by decide) kw_115 (fun _ h9 => h9) rfl rfl rfl (Nat.le_of_ble_eq_true rfl) (wT X (kset K i (h, dE (kA K 3) (va_up (va_up rc 4 ((rc 4) + more)) 3 4))) r t) (by rw [wT_set, kset_kset]; rfl) dX2_riseFor_51 (fun H locs hS => ?_)
        obtain ⟨x_6, ex_6⟩ : ∃ y : Int32, y = x + 1 := ⟨_, rfl⟩
        refine lv_iinc (v := x_6) (lv' := [(5, .int x_6), (0, .ref h), (1, .int (nI N)), (3, .int more), (4, .int most)]) hx hb dX2_riseFor_54 hl (k := 0) rfl (by rw [ex_6]; rfl) (by decide) rfl (fun ls hl => ?_)
        refine lv_goto (tgt := 17) hx hb dX2_riseFor_57 (by decide) ?_
        exact ih (kset K i (h, dE (kA K 3) (va_up (va_up rc 4 ((rc 4) + more)) 3 4))) (va_up (va_up rc 4 ((rc 4) + more)) 3 4) (j + 1) x_6 _ _ _ (kset_at hi) hk (by rw [ex_6, ex]; exact nI_1 j) (by omega) hS (lv_sub hl [0, 1, 2, 3, 4] rfl) hmore hmost (by rw [kset_kset, hmore]; exact hP)
set_option maxHeartbeats 4000000 in
set_option maxRecDepth 100000 in
theorem bf_loop {p : Program} {l : Launch} {e : Env} {R : Room} {s : State} {m : MethodId} {args : Array Value} {below : List Frame} {meth : Method} {c : Code} {X : Cx} {r : Bool} {t : Tr} {h i N : Nat} {w more : Int32} {P : va_W → Prop} (hN : N < 1000) (hx : p.tables.exec = Jvm.exec) (hb : c.code = cX2_brownFor) (hr : meth.sig.returnType = none) (hml : c.maxLocals = 5) (hown : s.vm.findClass RX2 = some m.cls) (hG : ∀ w ∈ G, w.before args s = true) (hlk : meth.locks = false) (hF : mF X s) (hz : X.2.2.2 ≤ s.heap.size) : ∀ (d : Nat) (K : KT) (rc : Rc) (j : Nat) (x : Int32) (H : Heap) (locs : List Loc) (ls : Array Slot), (kP K)[i]? = some (h, dE (kA K 3) rc) → kd rc < 7 → x = nI j → j + d = N → mS X s (wT X K r t) H locs → lv_has ls 5 [(4, .int x), (0, .ref h), (1, .int (nI N)), (3, .int more)] → more = brownV (kd rc) w → P (wT X (kset K i (h, dE (kA K 3) (brownN w d rc))) r t) → W p l e R s m args below meth c H locs 0 0 (MQ below (va_Qv P (fun w t => mH X w t.heap) (xA X)) args s 0 0 (xA X)) (F0 m 9 ls []) := by
  intro d
  induction d with
  | zero =>
    intro K rc j x H locs ls hi hk ex hd hS hl hmore hP
    refine lv_iload hx hb dX2_brownFor_9 (lv_at hl 0 rfl) ?_
    refine lv_iload_n hx hb dX2_brownFor_11 rfl (lv_at hl 2 rfl) ?_
    refine lv_icmp_ge (tgt := 53) hx hb dX2_brownFor_12 (by decide) (fun c_1 => ?_) (fun c_1 => absurd (by rw [ex]; exact nI_le (by omega) (by omega)) c_1)
    exact m_vret hx hb hr hlk hS (by have hP : P (wT X (kset K i (h, dE (kA K 3) rc)) r t) := hP; rw [kset_self hi] at hP; exact hP) (Nat.le_refl 0) (Nat.le_refl 0) dX2_brownFor_53
  | succ d ih =>
    intro K rc j x H locs ls hi hk ex hd hS hl hmore hP
    refine lv_iload hx hb dX2_brownFor_9 (lv_at hl 0 rfl) ?_
    refine lv_iload_n hx hb dX2_brownFor_11 rfl (lv_at hl 2 rfl) ?_
    refine lv_icmp_ge (tgt := 53) hx hb dX2_brownFor_12 (by decide) (fun c_2 => absurd c_2 (by rw [ex]; exact nI_ge (by omega) (by omega))) (fun c_2 => ?_)
    refine lv_aload_n hx hb dX2_brownFor_15 rfl (lv_at hl 1 rfl) ?_
    refine m_get hx hb hG hown hF hS (i + 15) (wT_at hi) (kd_cls hk).1 (kd_cls hk).2 3 (by decide) kw_115 (fun _ h9 => h9) rfl dX2_brownFor_16 ?_
    refine lv_iconst (v := 1) hx hb dX2_brownFor_19 (by decide) ?_
    refine lv_icmp_ne (tgt := 53) hx hb dX2_brownFor_20 (by decide) (fun c_3 => ?_) (fun c_3 => ?_)
    · exact m_vret hx hb hr hlk hS (by rw [brownN_0 c_3, kset_self hi] at hP; exact hP) (Nat.le_refl 0) (Nat.le_refl 0) dX2_brownFor_53
    · rw [brownN, if_pos c_3] at hP
      refine lv_aload_n hx hb dX2_brownFor_23 rfl (lv_at hl 1 rfl) ?_
      refine lv_dup hx hb dX2_brownFor_24 rfl ?_
      refine m_get hx hb hG hown hF hS (i + 15) (wT_at hi) (kd_cls hk).1 (kd_cls hk).2 5 (by decide) kw_119 (fun _ h9 => h9) rfl dX2_brownFor_25 ?_
      refine lv_iload_n hx hb dX2_brownFor_28 rfl (lv_at hl 3 rfl) ?_
      refine lv_iadd hx hb dX2_brownFor_29 ?_
      refine m_put hx hb hG hown hF hS (i + 15) (wT_at hi) (kd_cls hk).1 (kd_cls hk).2 tyX2_ok nmX2 5 (by decide) kw_119 (fun _ h9 => h9) rfl rfl rfl (Nat.le_of_ble_eq_true rfl) (wT X (kset K i (h, dE (kA K 3) (va_up rc 5 ((rc 5) + more)))) r t) rfl dX2_brownFor_30 (fun H locs hS => ?_)
      have hi2 : (kP (kset K i (h, dE (kA K 3) (va_up rc 5 ((rc 5) + more)))))[i]? = some (h, dE (kA K 3) (va_up rc 5 ((rc 5) + more))) := kset_at hi
      refine lv_aload_n hx hb dX2_brownFor_33 rfl (lv_at hl 1 rfl) ?_
      refine m_get hx hb hG hown hF hS (i + 15) (wT_at hi2) (kd_cls hk).1 (kd_cls hk).2 5 (by decide) kw_119 (fun _ h9 => h9) rfl dX2_brownFor_34 ?_
      refine lv_bipush (v := 100) hx hb dX2_brownFor_37 (by decide) ?_
      refine lv_icmp_le (tgt := 47) hx hb dX2_brownFor_39 (by decide) (fun c_4 => ?_) (fun c_4 => ?_)
      · rw [stepB, if_pos (by rw [← hmore]; exact c_4)] at hP
        obtain ⟨x_5, ex_5⟩ : ∃ y : Int32, y = x + 1 := ⟨_, rfl⟩
        refine lv_iinc (v := x_5) (lv' := [(4, .int x_5), (0, .ref h), (1, .int (nI N)), (3, .int more)]) hx hb dX2_brownFor_47 hl (k := 0) rfl (by rw [ex_5]; rfl) (by decide) rfl (fun ls hl => ?_)
        refine lv_goto (tgt := 9) hx hb dX2_brownFor_50 (by decide) ?_
        exact ih (kset K i (h, dE (kA K 3) (va_up rc 5 ((rc 5) + more)))) (va_up rc 5 ((rc 5) + more)) (j + 1) x_5 _ _ _ hi2 hk (by rw [ex_5, ex]; exact nI_1 j) (by omega) hS (lv_sub hl [0, 1, 2, 3] rfl) hmore (by rw [kset_kset, hmore]; exact hP)
      · rw [stepB, if_neg (by rw [← hmore]; exact c_4)] at hP
        refine lv_aload_n hx hb dX2_brownFor_42 rfl (lv_at hl 1 rfl) ?_
        refine lv_iconst (v := 4) hx hb dX2_brownFor_43 (by decide) ?_
        refine m_put hx hb hG hown hF hS (i + 15) (wT_at hi2) (kd_cls hk).1 (kd_cls hk).2 tyX2_ok nmX2 3 (by decide) kw_115 (fun _ h9 => h9) rfl rfl rfl (Nat.le_of_ble_eq_true rfl) (wT X (kset K i (h, dE (kA K 3) (va_up (va_up rc 5 ((rc 5) + more)) 3 4))) r t) (by rw [wT_set, kset_kset]; rfl) dX2_brownFor_44 (fun H locs hS => ?_)
        obtain ⟨x_6, ex_6⟩ : ∃ y : Int32, y = x + 1 := ⟨_, rfl⟩
        refine lv_iinc (v := x_6) (lv' := [(4, .int x_6), (0, .ref h), (1, .int (nI N)), (3, .int more)]) hx hb dX2_brownFor_47 hl (k := 0) rfl (by rw [ex_6]; rfl) (by decide) rfl (fun ls hl => ?_)
        refine lv_goto (tgt := 9) hx hb dX2_brownFor_50 (by decide) ?_
        exact ih (kset K i (h, dE (kA K 3) (va_up (va_up rc 5 ((rc 5) + more)) 3 4))) (va_up (va_up rc 5 ((rc 5) + more)) 3 4) (j + 1) x_6 _ _ _ (kset_at hi) hk (by rw [ex_6, ex]; exact nI_1 j) (by omega) hS (lv_sub hl [0, 1, 2, 3] rfl) hmore (by rw [kset_kset, hmore]; exact hP)
