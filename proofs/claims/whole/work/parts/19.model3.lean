/-- one minute of one batch, as the reference goes -/
def stepM (w : Int32) (hs : Nat → Int32) (rc : Rc) : Rc := if rc 3 = 0 then stepR w rc else if rc 3 = 1 then stepB (hs (rc 6).toNatClampNeg) rc else rc
/-- how many of the first n are lost by it -/
def lostM (w : Int32) (hs : Nat → Int32) (g : Nat → Rc) : Nat → Int32
  | 0 => 0
  | n + 1 => if g n 3 = 0 then (if g n 4 + riseV (kd (g n)) w ≤ 2 * needV (kd (g n)) (g n 1) then lostM w hs g n else lostM w hs g n + 1) else if g n 3 = 1 then (if g n 5 + brownV (kd (g n)) (hs (g n 6).toNatClampNeg) ≤ 100 then lostM w hs g n else lostM w hs g n + 1) else lostM w hs g n
theorem stepM_f {w : Int32} {hs : Nat → Int32} {rc : Rc} {f : Nat} (h3 : f ≠ 3) (h4 : f ≠ 4) (h5 : f ≠ 5) : stepM w hs rc f = rc f := by
  unfold stepM
  by_cases h : rc 3 = 0
  · rw [if_pos h, stepR_f h3 h4]
  · rw [if_neg h]
    by_cases h1 : rc 3 = 1
    · rw [if_pos h1, stepB_f h3 h5]
    · rw [if_neg h1]
theorem stepM_kd {w : Int32} {hs : Nat → Int32} {rc : Rc} : kd (stepM w hs rc) = kd rc := by
  unfold kd; rw [stepM_f (by decide) (by decide) (by decide)]
/-- all batches after k minutes, and how many were lost so far -/
def itG (w : Int32) (hs : Nat → Int32) (n : Nat) (g : Nat → Rc) : Nat → (Nat → Rc)
  | 0 => g
  | k + 1 => gup (stepM w hs) (itG w hs n g k) n
def lostS (w : Int32) (hs : Nat → Int32) (n : Nat) (g : Nat → Rc) : Nat → Int32
  | 0 => 0
  | k + 1 => lostS w hs n g k + lostM w hs (itG w hs n g k) n
theorem gup_f {F : Rc → Rc} {g : Nat → Rc} {n i f : Nat} (hF : ∀ rc, F rc f = rc f) : gup F g n i f = g i f := by
  by_cases h : i < n
  · rw [gup_lt h, hF]
  · rw [gup_ge (by omega)]
theorem gup_k0 {F : Rc → Rc} {g : Nat → Rc} {n k : Nat} (hF : ∀ rc, F rc 0 = rc 0) (h : ∀ i, i < n → g i 0 = nI (kd (g i))) : ∀ i, i < n → gup F g k i 0 = nI (kd (gup F g k i)) := fun i hi => by
  unfold kd
  rw [gup_f hF]
  exact h i hi
theorem itG_f {w : Int32} {hs : Nat → Int32} {n i f : Nat} {g : Nat → Rc} (h3 : f ≠ 3) (h4 : f ≠ 4) (h5 : f ≠ 5) : ∀ k, itG w hs n g k i f = g i f
  | 0 => rfl
  | k + 1 => by
    show gup (stepM w hs) (itG w hs n g k) n i f = g i f
    rw [gup_f (fun rc => stepM_f h3 h4 h5), itG_f h3 h4 h5 k]
theorem itG_kd {w : Int32} {hs : Nat → Int32} {n i : Nat} {g : Nat → Rc} {k : Nat} : kd (itG w hs n g k i) = kd (g i) := by
  unfold kd; rw [itG_f (by decide) (by decide) (by decide)]
set_option maxHeartbeats 4000000 in
set_option maxRecDepth 100000 in
theorem Mt_loop {p : Program} {l : Launch} {e : Env} {R : Room} {s : State} {m : MethodId} {args : Array Value} {below : List Frame} {meth : Method} {c : Code} {X : Cx} {B : Nat → Nat} {n : Nat} {wm dy tl : Int32} {g : Nat → Rc} {hs : Nat → Int32} {rest : va_W} {t : Tr} {P : Int32 → va_W → Prop} (hn : n ≤ 40) (hkd : ∀ i, i < n → kd (g i) < 7) (hk0 : ∀ i, i < n → g i 0 = nI (kd (g i))) (hov : ∀ i, i < n → ∃ o, o < 3 ∧ g i 6 = nI o) (hx : p.tables.exec = Jvm.exec) (hb : c.code = cX9_minute) (hr : meth.sig.returnType = some .int) (hml : c.maxLocals = 3) (hown : s.vm.findClass RX9 = some m.cls) (hG : ∀ w ∈ G, w.before args s = true) (hlk : meth.locks = false) (hF : mF X s) (hz : X.2.2.2 ≤ s.heap.size) (hR2 : (rl 2).frames + 1 ≤ R.frames ∧ ∀ k, k ≤ 8 → 8 + (k + 11) + (rl 2).locals ≤ R.locals) (hP : P (lostM wm hs g n) (wM X B n wm dy tl (gup (stepM wm hs) g n) hs rest false t)) : ∀ (d j : Nat) (x2 x1 : Int32) (ls : Array Slot) (H : Heap) (locs : List Loc), x2 = nI j → j + d = n → x1 = lostM wm hs g j → mS X s (wM X B n wm dy tl (gup (stepM wm hs) g j) hs rest false t) H locs → lv_has ls 3 [(2, .int x2), (1, .int x1), (0, .ref (B 0))] → W p l e R s m args below meth c H locs 0 0 (MQ below (va_Qi P (fun w t => mH X w t.heap) (xA X)) args s 0 0 (xA X)) (F0 m 4 ls []) := by
  intro d
  induction d with
  | zero =>
    intro j x2 x1 ls H locs ex hd e1 hS hl
    have hj : n = j := by omega
    subst hj
    refine lv_iload_n hx hb dX9_minute_4 rfl (lv_at hl 0 rfl) ?_
    refine lv_aload_n hx hb dX9_minute_5 rfl (lv_at hl 2 rfl) ?_
    refine m_get (v := .int (nI n)) hx hb hG hown hF hS (0) rfl rfl iG_9 0 (by decide) kw_471 (fun _ h9 => h9) rfl dX9_minute_6 ?_
    refine lv_icmp_ge (tgt := 130) hx hb dX9_minute_9 (by decide) (fun c_1 => ?_) (fun c_1 => absurd (by rw [ex]; exact Int32.le_refl _) c_1)
    refine lv_iload_n hx hb dX9_minute_130 rfl (lv_at hl 1 rfl) ?_
    exact m_iret hx hb hr hlk hS (by rw [e1]; exact hP) (Nat.le_refl 0) (Nat.le_refl 0) dX9_minute_131
  | succ d ih =>
    intro j x2 x1 ls H locs ex hd e1 hS hl
    subst ex
    have hj : j < n := by omega
    have hj4 : j < 40 := by omega
    have hga : gup (stepM wm hs) g j j = g j := gup_at _ _ _
    have hkj := hkd j hj
    have hk0j := hk0 j hj
    refine lv_iload_n hx hb dX9_minute_4 rfl (lv_at hl 0 rfl) ?_
    refine lv_aload_n hx hb dX9_minute_5 rfl (lv_at hl 2 rfl) ?_
    refine m_get (v := .int (nI n)) hx hb hG hown hF hS (0) rfl rfl iG_9 0 (by decide) kw_471 (fun _ h9 => h9) rfl dX9_minute_6 ?_
    refine lv_icmp_ge (tgt := 130) hx hb dX9_minute_9 (by decide) (fun c_2 => absurd c_2 (nI_ge (by omega) (by omega))) (fun c_2 => ?_)
    refine lv_aload_n hx hb dX9_minute_12 rfl (lv_at hl 2 rfl) ?_
    refine m_get (v := .ref (B 3)) hx hb hG hown hF hS (0) rfl rfl iG_9 3 (by decide) kw_474 (fun _ h9 => h9) rfl dX9_minute_13 ?_
    refine lv_iload_n hx hb dX9_minute_16 rfl (lv_at hl 0 rfl) ?_
    refine m_ialdv (v := g j 3) hx hb hF hS (3) rfl (j) rfl (hj4) (by decide) (by show gup (stepM wm hs) g j j 3 = g j 3; rw [hga]) dX9_minute_17 ?_
    refine lv_if_ne (tgt := 68) hx hb dX9_minute_18 (by decide) (fun c_3 => ?_) (fun c_3 => ?_)
    · refine lv_aload_n hx hb dX9_minute_68 rfl (lv_at hl 2 rfl) ?_
      refine m_get (v := .ref (B 3)) hx hb hG hown hF hS (0) rfl rfl iG_9 3 (by decide) kw_474 (fun _ h9 => h9) rfl dX9_minute_69 ?_
      refine lv_iload_n hx hb dX9_minute_72 rfl (lv_at hl 0 rfl) ?_
      refine m_ialdv (v := g j 3) hx hb hF hS (3) rfl (j) rfl (hj4) (by decide) (by show gup (stepM wm hs) g j j 3 = g j 3; rw [hga]) dX9_minute_73 ?_
      refine lv_iconst (v := 1) hx hb dX9_minute_74 (by decide) ?_
      refine lv_icmp_ne (tgt := 124) hx hb dX9_minute_75 (by decide) (fun c_4 => ?_) (fun c_4 => ?_)
      · obtain ⟨x_5, ex_5⟩ : ∃ y : Int32, y = (nI j) + 1 := ⟨_, rfl⟩
        refine lv_iinc (v := x_5) (lv' := [(2, .int x_5), (1, .int x1), (0, .ref (B 0))]) hx hb dX9_minute_124 hl (k := 0) rfl (by rw [ex_5]; rfl) (by decide) rfl (fun ls hl => ?_)
        refine lv_goto (tgt := 4) hx hb dX9_minute_127 (by decide) ?_
        exact ih (j + 1) x_5 x1 ls _ _ (by rw [ex_5]; exact nI_1 j) (by omega) (by rw [lostM]; rw [if_neg c_3, if_neg c_4, e1]) (by rw [gup_skip (by unfold stepM; rw [if_neg c_3, if_neg c_4])]; exact hS) (lv_sub hl [0, 1, 2] rfl)
      · obtain ⟨o, ho, eo⟩ := hov j hj
        refine lv_aload_n hx hb dX9_minute_78 rfl (lv_at hl 2 rfl) ?_
        refine m_get (v := .ref (B 5)) hx hb hG hown hF hS (0) rfl rfl iG_9 5 (by decide) kw_476 (fun _ h9 => h9) rfl dX9_minute_79 ?_
        refine lv_iload_n hx hb dX9_minute_82 rfl (lv_at hl 0 rfl) ?_
        refine lv_dup2_11 hx hb dX9_minute_83 rfl rfl ?_
        refine m_ialdv (v := g j 5) hx hb hF hS (5) rfl (j) rfl (hj4) (by decide) (by show gup (stepM wm hs) g j j 5 = g j 5; rw [hga]) dX9_minute_84 ?_
        refine lv_aload_n hx hb dX9_minute_85 rfl (lv_at hl 2 rfl) ?_
        refine lv_iload_n hx hb dX9_minute_86 rfl (lv_at hl 0 rfl) ?_
        refine lv_aload_n hx hb dX9_minute_87 rfl (lv_at hl 2 rfl) ?_
        refine m_get (v := .ref (B 8)) hx hb hG hown hF hS (0) rfl rfl iG_9 9 (by decide) kw_480 (fun _ h9 => h9) rfl dX9_minute_88 ?_
        refine lv_aload_n hx hb dX9_minute_91 rfl (lv_at hl 2 rfl) ?_
        refine m_get (v := .ref (B 6)) hx hb hG hown hF hS (0) rfl rfl iG_9 6 (by decide) kw_477 (fun _ h9 => h9) rfl dX9_minute_92 ?_
        refine lv_iload_n hx hb dX9_minute_95 rfl (lv_at hl 0 rfl) ?_
        refine m_ialdv (v := nI o) hx hb hF hS (6) rfl (j) rfl (hj4) (by decide) (by show gup (stepM wm hs) g j j 6 = nI o; rw [hga]; exact eo) dX9_minute_96 ?_
        refine m_iald hx hb hF hS (8) rfl (o) rfl (ho) (by decide) dX9_minute_97 ?_
        refine m_ci (m_runV (n := 2) (rest := [.int (g j 5), .int (nI j), .ref (B 5)]) ⟨hx, hb, hml, hown, hG⟩ (M_brown l X B n wm dy tl (gup (stepM wm hs) g j) hs rest false t j (kd (g j)) (hs o) 1 hj4 (by rw [hga]; exact hk0j) hkj (by decide) tR.f) kw_548 kw_550 kw_11 kw_20 kw_551 (by decide +kernel) ⟨Nat.le_trans (by decide) hR2.1, Nat.le_trans (by decide) (hR2.2 5 (by decide))⟩ hF hz hS (q0 := 0) rfl rfl rfl hl.1 rfl (Nat.le_of_ble_eq_true rfl) dX9_minute_98 ⟨Nat.zero_le _, Nat.zero_le _⟩) hS (fun r_5 w2 H locs hw2 hS => ?_)
        obtain ⟨rfl, rfl⟩ := hw2
        have hS : mS X s (wM X B n wm dy tl (gup (stepM wm hs) g j) hs rest false t) H locs := hS
        refine lv_iadd hx hb dX9_minute_101 ?_
        refine m_iast hx hb hF hS (5) rfl (j) rfl (hj4) (by decide) (wM X B n wm dy tl (va_up (gup (stepM wm hs) g j) j (va_up (g j) 5 ((g j 5) + (brownV (kd (g j)) (hs o))))) hs rest false t) (by rw [wM_s5, hga]) dX9_minute_102 (fun H locs hS => ?_)
        refine lv_aload_n hx hb dX9_minute_103 rfl (lv_at hl 2 rfl) ?_
        refine m_get (v := .ref (B 5)) hx hb hG hown hF hS (0) rfl rfl iG_9 5 (by decide) kw_476 (fun _ h9 => h9) rfl dX9_minute_104 ?_
        refine lv_iload_n hx hb dX9_minute_107 rfl (lv_at hl 0 rfl) ?_
        refine m_ialdv (v := (g j 5) + (brownV (kd (g j)) (hs o))) hx hb hF hS (5) rfl (j) rfl (hj4) (by decide) (by show va_up (gup (stepM wm hs) g j) j (va_up (g j) 5 ((g j 5) + (brownV (kd (g j)) (hs o)))) j 5 = _; rw [va_up_self, va_up_self]) dX9_minute_108 ?_
        refine lv_bipush (v := 100) hx hb dX9_minute_109 (by decide) ?_
        refine lv_icmp_le (tgt := 124) hx hb dX9_minute_111 (by decide) (fun c_6 => ?_) (fun c_6 => ?_)
        · obtain ⟨x_7, ex_7⟩ : ∃ y : Int32, y = (nI j) + 1 := ⟨_, rfl⟩
          refine lv_iinc (v := x_7) (lv' := [(2, .int x_7), (1, .int x1), (0, .ref (B 0))]) hx hb dX9_minute_124 hl (k := 0) rfl (by rw [ex_7]; rfl) (by decide) rfl (fun ls hl => ?_)
          refine lv_goto (tgt := 4) hx hb dX9_minute_127 (by decide) ?_
          exact ih (j + 1) x_7 x1 ls _ _ (by rw [ex_7]; exact nI_1 j) (by omega) (by rw [lostM]; rw [if_neg c_3, if_pos c_4, if_pos (by rw [eo, nI_clamp (by omega)]; exact c_6), e1]) (by rw [← gup_s]; unfold stepM; rw [if_neg c_3, if_pos c_4]; unfold stepB; rw [if_pos (by rw [eo, nI_clamp (by omega)]; exact c_6)]; rw [eo, nI_clamp (by omega)]; exact hS) (lv_sub hl [0, 1, 2] rfl)
        · refine lv_aload_n hx hb dX9_minute_114 rfl (lv_at hl 2 rfl) ?_
          refine m_get (v := .ref (B 3)) hx hb hG hown hF hS (0) rfl rfl iG_9 3 (by decide) kw_474 (fun _ h9 => h9) rfl dX9_minute_115 ?_
          refine lv_iload_n hx hb dX9_minute_118 rfl (lv_at hl 0 rfl) ?_
          refine lv_iconst (v := 4) hx hb dX9_minute_119 (by decide) ?_
          refine m_iast hx hb hF hS (3) rfl (j) rfl (hj4) (by decide) (wM X B n wm dy tl (va_up (gup (stepM wm hs) g j) j (va_up (va_up (g j) 5 ((g j 5) + (brownV (kd (g j)) (hs o)))) 3 4)) hs rest false t) (by rw [wM_s3, va_up_up, va_up_self]) dX9_minute_120 (fun H locs hS => ?_)
          obtain ⟨x_7, ex_7⟩ : ∃ y : Int32, y = x1 + 1 := ⟨_, rfl⟩
          refine lv_iinc (v := x_7) (lv' := [(1, .int x_7), (2, .int (nI j)), (0, .ref (B 0))]) hx hb dX9_minute_121 hl (k := 1) rfl (by rw [ex_7]; rfl) (by decide) rfl (fun ls hl => ?_)
          obtain ⟨x_8, ex_8⟩ : ∃ y : Int32, y = (nI j) + 1 := ⟨_, rfl⟩
          refine lv_iinc (v := x_8) (lv' := [(2, .int x_8), (1, .int x_7), (0, .ref (B 0))]) hx hb dX9_minute_124 hl (k := 1) rfl (by rw [ex_8]; rfl) (by decide) rfl (fun ls hl => ?_)
          refine lv_goto (tgt := 4) hx hb dX9_minute_127 (by decide) ?_
          exact ih (j + 1) x_8 x_7 ls _ _ (by rw [ex_8]; exact nI_1 j) (by omega) (by rw [lostM]; rw [if_neg c_3, if_pos c_4, if_neg (by rw [eo, nI_clamp (by omega)]; exact c_6), ex_7, e1]) (by rw [← gup_s]; unfold stepM; rw [if_neg c_3, if_pos c_4]; unfold stepB; rw [if_neg (by rw [eo, nI_clamp (by omega)]; exact c_6)]; rw [eo, nI_clamp (by omega)]; exact hS) (lv_sub hl [0, 1, 2] rfl)
    · refine lv_aload_n hx hb dX9_minute_21 rfl (lv_at hl 2 rfl) ?_
      refine m_get (v := .ref (B 4)) hx hb hG hown hF hS (0) rfl rfl iG_9 4 (by decide) kw_475 (fun _ h9 => h9) rfl dX9_minute_22 ?_
      refine lv_iload_n hx hb dX9_minute_25 rfl (lv_at hl 0 rfl) ?_
      refine lv_dup2_11 hx hb dX9_minute_26 rfl rfl ?_
      refine m_ialdv (v := g j 4) hx hb hF hS (4) rfl (j) rfl (hj4) (by decide) (by show gup (stepM wm hs) g j j 4 = g j 4; rw [hga]) dX9_minute_27 ?_
      refine lv_aload_n hx hb dX9_minute_28 rfl (lv_at hl 2 rfl) ?_
      refine lv_iload_n hx hb dX9_minute_29 rfl (lv_at hl 0 rfl) ?_
      refine lv_aload_n hx hb dX9_minute_30 rfl (lv_at hl 2 rfl) ?_
      refine m_get (v := .int wm) hx hb hG hown hF hS (0) rfl rfl iG_9 8 (by decide) kw_479 (fun _ h9 => h9) rfl dX9_minute_31 ?_
      refine m_ci (m_runV (n := 2) (rest := [.int (g j 4), .int (nI j), .ref (B 4)]) ⟨hx, hb, hml, hown, hG⟩ (M_rise l X B n wm dy tl (gup (stepM wm hs) g j) hs rest false t j (kd (g j)) wm 1 hj4 (by rw [hga]; exact hk0j) hkj (by decide) tR.f) kw_536 kw_538 kw_8 kw_20 kw_539 (by decide +kernel) ⟨Nat.le_trans (by decide) hR2.1, Nat.le_trans (by decide) (hR2.2 5 (by decide))⟩ hF hz hS (q0 := 0) rfl rfl rfl hl.1 rfl (Nat.le_of_ble_eq_true rfl) dX9_minute_34 ⟨Nat.zero_le _, Nat.zero_le _⟩) hS (fun r_4 w2 H locs hw2 hS => ?_)
      obtain ⟨rfl, rfl⟩ := hw2
      have hS : mS X s (wM X B n wm dy tl (gup (stepM wm hs) g j) hs rest false t) H locs := hS
      refine lv_iadd hx hb dX9_minute_37 ?_
      refine m_iast hx hb hF hS (4) rfl (j) rfl (hj4) (by decide) (wM X B n wm dy tl (va_up (gup (stepM wm hs) g j) j (va_up (g j) 4 ((g j 4) + (riseV (kd (g j)) wm)))) hs rest false t) (by rw [wM_s4, hga]) dX9_minute_38 (fun H locs hS => ?_)
      refine lv_aload_n hx hb dX9_minute_39 rfl (lv_at hl 2 rfl) ?_
      refine m_get (v := .ref (B 4)) hx hb hG hown hF hS (0) rfl rfl iG_9 4 (by decide) kw_475 (fun _ h9 => h9) rfl dX9_minute_40 ?_
      refine lv_iload_n hx hb dX9_minute_43 rfl (lv_at hl 0 rfl) ?_
      refine m_ialdv (v := (g j 4) + (riseV (kd (g j)) wm)) hx hb hF hS (4) rfl (j) rfl (hj4) (by decide) (by show va_up (gup (stepM wm hs) g j) j (va_up (g j) 4 ((g j 4) + (riseV (kd (g j)) wm))) j 4 = _; rw [va_up_self, va_up_self]) dX9_minute_44 ?_
      refine lv_iconst (v := 2) hx hb dX9_minute_45 (by decide) ?_
      refine lv_aload_n hx hb dX9_minute_46 rfl (lv_at hl 2 rfl) ?_
      refine lv_iload_n hx hb dX9_minute_47 rfl (lv_at hl 0 rfl) ?_
      refine m_ci (m_runV (n := 1) (rest := [.int 2, .int ((g j 4) + (riseV (kd (g j)) wm))]) ⟨hx, hb, hml, hown, hG⟩ (M_need l X B n wm dy tl (va_up (gup (stepM wm hs) g j) j (va_up (g j) 4 ((g j 4) + (riseV (kd (g j)) wm)))) hs rest false t j (kd (g j)) 2 hj4 (by rw [va_up_self]; exact hk0j) hkj (by decide) tR.f) kw_544 kw_546 kw_10 kw_20 kw_547 (by decide +kernel) ⟨hR2.1, hR2.2 4 (by decide)⟩ hF hz hS (q0 := 0) rfl rfl rfl hl.1 rfl (Nat.le_of_ble_eq_true rfl) dX9_minute_48 ⟨Nat.zero_le _, Nat.zero_le _⟩) hS (fun r_5 w3 H locs hw3 hS => ?_)
      obtain ⟨rfl, rfl⟩ := hw3
      have hS : mS X s (wM X B n wm dy tl (va_up (gup (stepM wm hs) g j) j (va_up (g j) 4 ((g j 4) + (riseV (kd (g j)) wm)))) hs rest false t) H locs := hS
      rw [show needV (kd (g j)) ((va_up (gup (stepM wm hs) g j) j (va_up (g j) 4 ((g j 4) + (riseV (kd (g j)) wm)))) j 1) = needV (kd (g j)) (g j 1) from by rw [va_up_self]; rfl]
      refine lv_imul hx hb dX9_minute_51 ?_
      refine lv_icmp_le (tgt := 124) hx hb dX9_minute_52 (by decide) (fun c_6 => ?_) (fun c_6 => ?_)
      · obtain ⟨x_7, ex_7⟩ : ∃ y : Int32, y = (nI j) + 1 := ⟨_, rfl⟩
        refine lv_iinc (v := x_7) (lv' := [(2, .int x_7), (1, .int x1), (0, .ref (B 0))]) hx hb dX9_minute_124 hl (k := 0) rfl (by rw [ex_7]; rfl) (by decide) rfl (fun ls hl => ?_)
        refine lv_goto (tgt := 4) hx hb dX9_minute_127 (by decide) ?_
        exact ih (j + 1) x_7 x1 ls _ _ (by rw [ex_7]; exact nI_1 j) (by omega) (by rw [lostM]; rw [if_pos c_3, if_pos c_6, e1]) (by rw [← gup_s]; unfold stepM; rw [if_pos c_3]; unfold stepR; rw [if_pos c_6]; exact hS) (lv_sub hl [0, 1, 2] rfl)
      · refine lv_aload_n hx hb dX9_minute_55 rfl (lv_at hl 2 rfl) ?_
        refine m_get (v := .ref (B 3)) hx hb hG hown hF hS (0) rfl rfl iG_9 3 (by decide) kw_474 (fun _ h9 => h9) rfl dX9_minute_56 ?_
        refine lv_iload_n hx hb dX9_minute_59 rfl (lv_at hl 0 rfl) ?_
        refine lv_iconst (v := 4) hx hb dX9_minute_60 (by decide) ?_
        refine m_iast hx hb hF hS (3) rfl (j) rfl (hj4) (by decide) (wM X B n wm dy tl (va_up (gup (stepM wm hs) g j) j (va_up (va_up (g j) 4 ((g j 4) + (riseV (kd (g j)) wm))) 3 4)) hs rest false t) (by rw [wM_s3, va_up_up, va_up_self]) dX9_minute_61 (fun H locs hS => ?_)
        obtain ⟨x_7, ex_7⟩ : ∃ y : Int32, y = x1 + 1 := ⟨_, rfl⟩
        refine lv_iinc (v := x_7) (lv' := [(1, .int x_7), (2, .int (nI j)), (0, .ref (B 0))]) hx hb dX9_minute_62 hl (k := 1) rfl (by rw [ex_7]; rfl) (by decide) rfl (fun ls hl => ?_)
        refine lv_goto (tgt := 124) hx hb dX9_minute_65 (by decide) ?_
        obtain ⟨x_8, ex_8⟩ : ∃ y : Int32, y = (nI j) + 1 := ⟨_, rfl⟩
        refine lv_iinc (v := x_8) (lv' := [(2, .int x_8), (1, .int x_7), (0, .ref (B 0))]) hx hb dX9_minute_124 hl (k := 1) rfl (by rw [ex_8]; rfl) (by decide) rfl (fun ls hl => ?_)
        refine lv_goto (tgt := 4) hx hb dX9_minute_127 (by decide) ?_
        exact ih (j + 1) x_8 x_7 ls _ _ (by rw [ex_8]; exact nI_1 j) (by omega) (by rw [lostM]; rw [if_pos c_3, if_neg c_6, ex_7, e1]) (by rw [← gup_s]; unfold stepM; rw [if_pos c_3]; unfold stepR; rw [if_neg c_6]; exact hS) (lv_sub hl [0, 1, 2] rfl)
set_option maxHeartbeats 4000000 in
set_option maxRecDepth 100000 in
theorem M_minute (l : Launch) (X : Cx) (B : Nat → Nat) (n : Nat) (wm dy tl : Int32) (g : Nat → Rc) (hs : Nat → Int32) (rest : va_W) (t : Tr) (f : Nat) (hf : 3 ≤ f) (hn : n ≤ 40) (hkd : ∀ i, i < n → kd (g i) < 7) (hk0 : ∀ i, i < n → g i 0 = nI (kd (g i))) (hov : ∀ i, i < n → ∃ o, o < 3 ∧ g i 6 = nI o) : cI l yX9_minute cX9_minute 3 (some .int) (rl f) X [.ref (B 0)] (wM X B n wm dy tl g hs rest false t) (fun v w => v = lostM wm hs g n ∧ w = wM X B n wm dy tl (gup (stepM wm hs) g n) hs rest false t) := by
  refine met_start (by decide) (Nat.le_of_ble_eq_true rfl) ?_
  intro p e s m below meth c ls fx hS hl
  obtain ⟨hx, hb, hr, hml, hown, hG, hlk, hF, hz, hnm⟩ := fx
  have hown : s.vm.findClass RX9 = some m.cls := hown
  have hl : lv_has ls 3 [(0, .ref (B 0))] := hl
  refine lv_iconst (v := 0) hx hb dX9_minute_0 (by decide) ?_
  refine lv_istore_n (lv' := [(1, .int 0), (0, .ref (B 0))]) hx hb dX9_minute_1 rfl hl (by decide) rfl (fun ls hl => ?_)
  refine lv_iconst (v := 0) hx hb dX9_minute_2 (by decide) ?_
  refine lv_istore_n (lv' := [(2, .int 0), (1, .int 0), (0, .ref (B 0))]) hx hb dX9_minute_3 rfl hl (by decide) rfl (fun ls hl => ?_)
  refine Mt_loop hn hkd hk0 hov hx hb hr hml hown hG hlk hF hz ⟨by show 2 + 1 ≤ f; omega, fun k hk => by show 8 + (k + 11) + 27 * 2 ≤ 27 * f; omega⟩ ⟨rfl, rfl⟩ n 0 0 0 ls _ _ nI_0.symm (by omega) rfl (by rw [gup_0]; exact hS) (lv_sub hl [0, 1, 2] rfl)
set_option maxHeartbeats 4000000 in
set_option maxRecDepth 100000 in
theorem Ms_loop {p : Program} {l : Launch} {e : Env} {R : Room} {s : State} {m : MethodId} {args : Array Value} {below : List Frame} {meth : Method} {c : Code} {X : Cx} {B : Nat → Nat} {n : Nat} {wm dy tl : Int32} {g : Nat → Rc} {hs : Nat → Int32} {rest : va_W} {t : Tr} {N : Nat} {P : Int32 → va_W → Prop} (hN : N < 1000) (hn : n ≤ 40) (hkd : ∀ i, i < n → kd (g i) < 7) (hk0 : ∀ i, i < n → g i 0 = nI (kd (g i))) (hov : ∀ i, i < n → ∃ o, o < 3 ∧ g i 6 = nI o) (hx : p.tables.exec = Jvm.exec) (hb : c.code = cX9_minutes) (hr : meth.sig.returnType = some .int) (hml : c.maxLocals = 4) (hown : s.vm.findClass RX9 = some m.cls) (hG : ∀ w ∈ G, w.before args s = true) (hlk : meth.locks = false) (hF : mF X s) (hz : X.2.2.2 ≤ s.heap.size) (hR3 : (rl 3).frames + 1 ≤ R.frames ∧ ∀ k, k ≤ 8 → 8 + (k + 11) + (rl 3).locals ≤ R.locals) (hP : P (lostS wm hs n g N) (wM X B n wm dy tl (itG wm hs n g N) hs rest false t)) : ∀ (d j : Nat) (x3 x2 : Int32) (ls : Array Slot) (H : Heap) (locs : List Loc), x3 = nI j → j + d = N → x2 = lostS wm hs n g j → mS X s (wM X B n wm dy tl (itG wm hs n g j) hs rest false t) H locs → lv_has ls 4 [(3, .int x3), (2, .int x2), (0, .ref (B 0)), (1, .int (nI N))] → W p l e R s m args below meth c H locs 0 0 (MQ below (va_Qi P (fun w t => mH X w t.heap) (xA X)) args s 0 0 (xA X)) (F0 m 18 ls []) := by
  intro d
  induction d with
  | zero =>
    intro j x3 x2 ls H locs ex hd e2 hS hl
    have hj : N = j := by omega
    subst hj
    refine lv_iload_n hx hb dX9_minutes_18 rfl (lv_at hl 0 rfl) ?_
    refine lv_iload_n hx hb dX9_minutes_19 rfl (lv_at hl 3 rfl) ?_
    refine lv_icmp_ge (tgt := 36) hx hb dX9_minutes_20 (by decide) (fun c_1 => ?_) (fun c_1 => absurd (by rw [ex]; exact Int32.le_refl _) c_1)
    refine lv_iload_n hx hb dX9_minutes_36 rfl (lv_at hl 1 rfl) ?_
    exact m_iret hx hb hr hlk hS (by rw [e2]; exact hP) (Nat.le_refl 0) (Nat.le_refl 0) dX9_minutes_37
  | succ d ih =>
    intro j x3 x2 ls H locs ex hd e2 hS hl
    subst ex
    refine lv_iload_n hx hb dX9_minutes_18 rfl (lv_at hl 0 rfl) ?_
    refine lv_iload_n hx hb dX9_minutes_19 rfl (lv_at hl 3 rfl) ?_
    refine lv_icmp_ge (tgt := 36) hx hb dX9_minutes_20 (by decide) (fun c_2 => absurd c_2 (nI_ge (by omega) (by omega))) (fun c_2 => ?_)
    refine lv_iload_n hx hb dX9_minutes_23 rfl (lv_at hl 1 rfl) ?_
    refine lv_aload_n hx hb dX9_minutes_24 rfl (lv_at hl 2 rfl) ?_
    refine m_ci (m_runV (n := 0) (rest := [.int x2]) ⟨hx, hb, hml, hown, hG⟩ (M_minute l X B n wm dy tl (itG wm hs n g j) hs rest t 3 (by decide) hn (fun i hi => by rw [itG_kd]; exact hkd i hi) (fun i hi => by rw [itG_kd, itG_f (by decide) (by decide) (by decide)]; exact hk0 i hi) (fun i hi => by rw [itG_f (by decide) (by decide) (by decide)]; exact hov i hi)) kw_586 kw_588 kw_15 kw_20 kw_589 (by decide +kernel) ⟨hR3.1, hR3.2 3 (by decide)⟩ hF hz hS (q0 := 0) rfl rfl rfl hl.1 rfl (Nat.le_of_ble_eq_true rfl) dX9_minutes_25 ⟨Nat.zero_le _, Nat.zero_le _⟩) hS (fun r_3 w2 H locs hw2 hS => ?_)
    obtain ⟨rfl, rfl⟩ := hw2
    have hS : mS X s (wM X B n wm dy tl (itG wm hs n g (j + 1)) hs rest false t) H locs := hS
    refine lv_iadd hx hb dX9_minutes_28 ?_
    refine lv_topi (fun x_4 ex_4 => ?_)
    refine lv_istore_n (lv' := [(2, .int x_4), (3, .int (nI j)), (0, .ref (B 0)), (1, .int (nI N))]) hx hb dX9_minutes_29 rfl hl (by decide) rfl (fun ls hl => ?_)
    obtain ⟨x_5, ex_5⟩ : ∃ y : Int32, y = (nI j) + 1 := ⟨_, rfl⟩
    refine lv_iinc (v := x_5) (lv' := [(3, .int x_5), (2, .int x_4), (0, .ref (B 0)), (1, .int (nI N))]) hx hb dX9_minutes_30 hl (k := 1) rfl (by rw [ex_5]; rfl) (by decide) rfl (fun ls hl => ?_)
    refine lv_goto (tgt := 18) hx hb dX9_minutes_33 (by decide) ?_
    exact ih (j + 1) x_5 x_4 ls _ _ (by rw [ex_5]; exact nI_1 j) (by omega) (by rw [ex_4, e2]; rfl) hS (lv_sub hl [0, 1, 2, 3] rfl)
set_option maxHeartbeats 4000000 in
set_option maxRecDepth 100000 in
theorem M_minutes_bad (l : Launch) (X : Cx) (B : Nat → Nat) (n : Nat) (wm dy tl : Int32) (g : Nat → Rc) (hs : Nat → Int32) (rest : va_W) (t : Tr) (N : Int32) (f : Nat) (hf : 1 ≤ f) (h0 : inB N 1 200 = 0) : cI l yX9_minutes cX9_minutes 4 (some .int) (rl f) X [.ref (B 0), .int N] (wM X B n wm dy tl g hs rest false t) (fun v w => v = -2 ∧ w = wM X B n wm dy tl g hs rest false t) := by
  refine met_start (by decide) (Nat.le_of_ble_eq_true rfl) ?_
  intro p e s m below meth c ls fx hS hl
  obtain ⟨hx, hb, hr, hml, hown, hG, hlk, hF, hz, hnm⟩ := fx
  have hown : s.vm.findClass RX9 = some m.cls := hown
  have hl : lv_has ls 4 [(0, .ref (B 0)), (1, .int N)] := hl
  refine lv_iload_n hx hb dX9_minutes_0 rfl (lv_at hl 1 rfl) ?_
  refine lv_iconst (v := 1) hx hb dX9_minutes_1 (by decide) ?_
  refine lv_sipush (v := 200) hx hb dX9_minutes_2 (by decide) ?_
  refine m_ci (m_runS (n := 3) (rest := []) ⟨hx, hb, hml, hown, hG⟩ (c_in l X _ N 1 200 0) kw_521 kw_522 kw_20 kw_523 (by decide +kernel) (rl_ok (by omega) (by decide)) hF hz hS rfl hl.1 rfl (Nat.le_of_ble_eq_true rfl) dX9_minutes_5 ⟨Nat.zero_le _, Nat.zero_le _⟩) hS (fun r_1 w1 H locs hw1 hS => ?_)
  obtain ⟨rfl, rfl⟩ := hw1
  refine lv_if_ne (tgt := 14) hx hb dX9_minutes_8 (by decide) (fun c_2 => absurd (h0) c_2) (fun c_2 => ?_)
  refine lv_bipush (v := -2) hx hb dX9_minutes_11 (by decide) ?_
  exact m_iret hx hb hr hlk hS (⟨rfl, rfl⟩) (Nat.le_refl 0) (Nat.le_refl 0) dX9_minutes_13
set_option maxHeartbeats 4000000 in
set_option maxRecDepth 100000 in
theorem M_minutes (l : Launch) (X : Cx) (B : Nat → Nat) (n : Nat) (wm dy tl : Int32) (g : Nat → Rc) (hs : Nat → Int32) (rest : va_W) (t : Tr) (N f : Nat) (hf : 4 ≤ f) (hN : N < 1000) (h0 : ¬ inB (nI N) 1 200 = 0) (hn : n ≤ 40) (hkd : ∀ i, i < n → kd (g i) < 7) (hk0 : ∀ i, i < n → g i 0 = nI (kd (g i))) (hov : ∀ i, i < n → ∃ o, o < 3 ∧ g i 6 = nI o) : cI l yX9_minutes cX9_minutes 4 (some .int) (rl f) X [.ref (B 0), .int (nI N)] (wM X B n wm dy tl g hs rest false t) (fun v w => v = lostS wm hs n g N ∧ w = wM X B n wm dy tl (itG wm hs n g N) hs rest false t) := by
  refine met_start (by decide) (Nat.le_of_ble_eq_true rfl) ?_
  intro p e s m below meth c ls fx hS hl
  obtain ⟨hx, hb, hr, hml, hown, hG, hlk, hF, hz, hnm⟩ := fx
  have hown : s.vm.findClass RX9 = some m.cls := hown
  have hl : lv_has ls 4 [(0, .ref (B 0)), (1, .int (nI N))] := hl
  refine lv_iload_n hx hb dX9_minutes_0 rfl (lv_at hl 1 rfl) ?_
  refine lv_iconst (v := 1) hx hb dX9_minutes_1 (by decide) ?_
  refine lv_sipush (v := 200) hx hb dX9_minutes_2 (by decide) ?_
  refine m_ci (m_runS (n := 3) (rest := []) ⟨hx, hb, hml, hown, hG⟩ (c_in l X _ (nI N) 1 200 0) kw_521 kw_522 kw_20 kw_523 (by decide +kernel) (rl_ok (by omega) (by decide)) hF hz hS rfl hl.1 rfl (Nat.le_of_ble_eq_true rfl) dX9_minutes_5 ⟨Nat.zero_le _, Nat.zero_le _⟩) hS (fun r_1 w1 H locs hw1 hS => ?_)
  obtain ⟨rfl, rfl⟩ := hw1
  refine lv_if_ne (tgt := 14) hx hb dX9_minutes_8 (by decide) (fun c_2 => ?_) (fun c_2 => absurd c_2 (h0))
  refine lv_iconst (v := 0) hx hb dX9_minutes_14 (by decide) ?_
  refine lv_istore_n (lv' := [(2, .int 0), (0, .ref (B 0)), (1, .int (nI N))]) hx hb dX9_minutes_15 rfl hl (by decide) rfl (fun ls hl => ?_)
  refine lv_iconst (v := 0) hx hb dX9_minutes_16 (by decide) ?_
  refine lv_istore_n (lv' := [(3, .int 0), (2, .int 0), (0, .ref (B 0)), (1, .int (nI N))]) hx hb dX9_minutes_17 rfl hl (by decide) rfl (fun ls hl => ?_)
  refine Ms_loop (N := N) hN hn hkd hk0 hov hx hb hr hml hown hG hlk hF hz ⟨by show 3 + 1 ≤ f; omega, fun k hk => by show 8 + (k + 11) + 27 * 3 ≤ 27 * f; omega⟩ ⟨rfl, rfl⟩ N 0 0 0 ls _ _ nI_0.symm (by omega) rfl hS (lv_sub hl [0, 1, 2, 3] rfl)
set_option maxHeartbeats 4000000 in
set_option maxRecDepth 100000 in
theorem Md_loop {p : Program} {l : Launch} {e : Env} {R : Room} {s : State} {m : MethodId} {args : Array Value} {below : List Frame} {meth : Method} {c : Code} {X : Cx} {B : Nat → Nat} {n : Nat} {wm dy tl : Int32} {g : Nat → Rc} {hs : Nat → Int32} {rest : va_W} {t : Tr} {P : Int32 → va_W → Prop} (hn : n ≤ 40) (hkd : ∀ i, i < n → kd (g i) < 7) (hk0 : ∀ i, i < n → g i 0 = nI (kd (g i))) (hx : p.tables.exec = Jvm.exec) (hb : c.code = cX9_day) (hr : meth.sig.returnType = some .int) (hml : c.maxLocals = 4) (hown : s.vm.findClass RX9 = some m.cls) (hG : ∀ w ∈ G, w.before args s = true) (hlk : meth.locks = false) (hF : mF X s) (hz : X.2.2.2 ≤ s.heap.size) (hR4 : (rl 4).frames + 1 ≤ R.frames ∧ ∀ k, k ≤ 8 → 8 + (k + 11) + (rl 4).locals ≤ R.locals) (hP : P (dayC dy g n) (wM X B n wm (dy + 1) tl (gup (dayR dy) g n) hs rest false t)) : ∀ (d j : Nat) (x2 x1 : Int32) (ls : Array Slot) (H : Heap) (locs : List Loc), x2 = nI j → j + d = n → x1 = dayC dy g j → mS X s (wM X B n wm dy tl (gup (dayR dy) g j) hs rest false t) H locs → lv_has ls 4 [(2, .int x2), (1, .int x1), (0, .ref (B 0))] → W p l e R s m args below meth c H locs 0 0 (MQ below (va_Qi P (fun w t => mH X w t.heap) (xA X)) args s 0 0 (xA X)) (F0 m 17 ls []) := by
  intro d
  induction d with
  | zero =>
    intro j x2 x1 ls H locs ex hd e1 hS hl
    have hj : n = j := by omega
    subst hj
    refine lv_iload_n hx hb dX9_day_17 rfl (lv_at hl 0 rfl) ?_
    refine lv_aload_n hx hb dX9_day_18 rfl (lv_at hl 2 rfl) ?_
    refine m_get (v := .int (nI n)) hx hb hG hown hF hS (0) rfl rfl iG_9 0 (by decide) kw_471 (fun _ h9 => h9) rfl dX9_day_19 ?_
    refine lv_icmp_ge (tgt := 98) hx hb dX9_day_22 (by decide) (fun c_1 => ?_) (fun c_1 => absurd (by rw [ex]; exact Int32.le_refl _) c_1)
    refine lv_aload_n hx hb dX9_day_98 rfl (lv_at hl 2 rfl) ?_
    refine lv_dup hx hb dX9_day_99 rfl ?_
    refine m_get (v := .int dy) hx hb hG hown hF hS (0) rfl rfl iG_9 10 (by decide) kw_481 (fun _ h9 => h9) rfl dX9_day_100 ?_
    refine lv_iconst (v := 1) hx hb dX9_day_103 (by decide) ?_
    refine lv_iadd hx hb dX9_day_104 ?_
    refine m_put hx hb hG hown hF hS (0) rfl rfl iG_9 tyX9_ok nmX9 10 (by decide) kw_481 (fun _ h9 => h9) rfl rfl rfl (Nat.le_of_ble_eq_true rfl) (wM X B n wm (dy + 1) tl (gup (dayR dy) g n) hs rest false t) rfl dX9_day_105 (fun H locs hS => ?_)
    refine lv_iload_n hx hb dX9_day_108 rfl (lv_at hl 1 rfl) ?_
    exact m_iret hx hb hr hlk hS (by rw [e1]; exact hP) (Nat.le_refl 0) (Nat.le_refl 0) dX9_day_109
  | succ d ih =>
    intro j x2 x1 ls H locs ex hd e1 hS hl
    subst ex
    have hj : j < n := by omega
    have hj4 : j < 40 := by omega
    have hga : gup (dayR dy) g j j = g j := gup_at _ _ _
    have hkj := hkd j hj
    have hk0j := hk0 j hj
    refine lv_iload_n hx hb dX9_day_17 rfl (lv_at hl 0 rfl) ?_
    refine lv_aload_n hx hb dX9_day_18 rfl (lv_at hl 2 rfl) ?_
    refine m_get (v := .int (nI n)) hx hb hG hown hF hS (0) rfl rfl iG_9 0 (by decide) kw_471 (fun _ h9 => h9) rfl dX9_day_19 ?_
    refine lv_icmp_ge (tgt := 98) hx hb dX9_day_22 (by decide) (fun c_2 => absurd c_2 (nI_ge (by omega) (by omega))) (fun c_2 => ?_)
    refine lv_aload_n hx hb dX9_day_25 rfl (lv_at hl 2 rfl) ?_
    refine m_get (v := .ref (B 3)) hx hb hG hown hF hS (0) rfl rfl iG_9 3 (by decide) kw_474 (fun _ h9 => h9) rfl dX9_day_26 ?_
    refine lv_iload_n hx hb dX9_day_29 rfl (lv_at hl 0 rfl) ?_
    refine m_ialdv (v := g j 3) hx hb hF hS (3) rfl (j) rfl (hj4) (by decide) (by show gup (dayR dy) g j j 3 = g j 3; rw [hga]) dX9_day_30 ?_
    refine lv_iconst (v := 2) hx hb dX9_day_31 (by decide) ?_
    refine lv_icmp_ne (tgt := 55) hx hb dX9_day_32 (by decide) (fun c_3 => ?_) (fun c_3 => ?_)
    · refine lv_iconst (v := 1) hx hb dX9_day_55 (by decide) ?_
      refine lv_istore_n (lv' := [(3, .int 1), (2, .int (nI j)), (1, .int x1), (0, .ref (B 0))]) hx hb dX9_day_56 rfl hl (by decide) rfl (fun ls hl => ?_)
      refine lv_aload_n hx hb dX9_day_57 rfl (lv_at hl 3 rfl) ?_
      refine m_get (v := .ref (B 3)) hx hb hG hown hF hS (0) rfl rfl iG_9 3 (by decide) kw_474 (fun _ h9 => h9) rfl dX9_day_58 ?_
      refine lv_iload_n hx hb dX9_day_61 rfl (lv_at hl 1 rfl) ?_
      refine m_ialdv (v := g j 3) hx hb hF hS (3) rfl (j) rfl (hj4) (by decide) (by show gup (dayR dy) g j j 3 = g j 3; rw [hga]) dX9_day_62 ?_
      refine lv_iconst (v := 2) hx hb dX9_day_63 (by decide) ?_
      refine lv_icmp_ne (tgt := 92) hx hb dX9_day_64 (by decide) (fun c_4 => ?_) (fun c_4 => absurd c_4 (c_3))
      obtain ⟨x_5, ex_5⟩ : ∃ y : Int32, y = (nI j) + 1 := ⟨_, rfl⟩
      refine lv_iinc (v := x_5) (lv' := [(2, .int x_5), (3, .int 1), (1, .int x1), (0, .ref (B 0))]) hx hb dX9_day_92 hl (k := 1) rfl (by rw [ex_5]; rfl) (by decide) rfl (fun ls hl => ?_)
      refine lv_goto (tgt := 17) hx hb dX9_day_95 (by decide) ?_
      exact ih (j + 1) x_5 x1 ls _ _ (by rw [ex_5]; exact nI_1 j) (by omega) (by rw [dayC]; rw [if_neg c_3, e1]) (by rw [gup_skip (by unfold dayR; rw [if_neg c_3])]; exact hS) (lv_sub hl [0, 2, 3] rfl)
    · refine lv_aload_n hx hb dX9_day_35 rfl (lv_at hl 2 rfl) ?_
      refine m_get (v := .ref (B 1)) hx hb hG hown hF hS (0) rfl rfl iG_9 1 (by decide) kw_472 (fun _ h9 => h9) rfl dX9_day_36 ?_
      refine lv_iload_n hx hb dX9_day_39 rfl (lv_at hl 0 rfl) ?_
      refine m_ialdv (v := nI (kd (g j))) hx hb hF hS (1) rfl (j) rfl (hj4) (by decide) (by show gup (dayR dy) g j j 0 = _; rw [hga]; exact hk0j) dX9_day_40 ?_
      refine m_ci (m_runS (n := 1) (rest := []) ⟨hx, hb, hml, hown, hG⟩ (M_isKeeping l X _ (nI (kd (g j))) 1 (by decide)) kw_556 kw_557 kw_20 kw_558 (by decide +kernel) ⟨Nat.le_trans (by decide) hR4.1, Nat.le_trans (by decide) (hR4.2 1 (by decide))⟩ hF hz hS rfl hl.1 rfl (Nat.le_of_ble_eq_true rfl) dX9_day_41 ⟨Nat.zero_le _, Nat.zero_le _⟩) hS (fun r_4 w2 H locs hw2 hS => ?_)
      obtain ⟨rfl, rfl⟩ := hw2
      by_cases h5 : 2 ≤ kd (g j) ∧ kd (g j) < 5
      · refine lv_if_eq (tgt := 55) hx hb dX9_day_44 (by decide) (fun c_5 => absurd c_5 (by rw [keep_yes h5.1 h5.2]; decide)) (fun c_5 => ?_)
        refine lv_aload_n hx hb dX9_day_47 rfl (lv_at hl 2 rfl) ?_
        refine lv_iload_n hx hb dX9_day_48 rfl (lv_at hl 0 rfl) ?_
        refine m_ci (m_runV (n := 1) (rest := []) ⟨hx, hb, hml, hown, hG⟩ (M_keeps l X B n wm dy tl (gup (dayR dy) g j) hs rest false t j (kd (g j)) 4 hj4 (by rw [hga]; exact hk0j) h5.1 h5.2 (by decide) tR.f) kw_559 kw_561 kw_13 kw_20 kw_562 (by decide +kernel) ⟨hR4.1, hR4.2 2 (by decide)⟩ hF hz hS (q0 := 0) rfl rfl rfl hl.1 rfl (Nat.le_of_ble_eq_true rfl) dX9_day_49 ⟨Nat.zero_le _, Nat.zero_le _⟩) hS (fun r_6 w3 H locs hw3 hS => ?_)
        obtain ⟨rfl, rfl⟩ := hw3
        have hS : mS X s (wM X B n wm dy tl (gup (dayR dy) g j) hs rest false t) H locs := hS
        rw [hga]
        refine lv_goto (tgt := 56) hx hb dX9_day_52 (by decide) ?_
        refine lv_istore_n (lv' := [(3, .int (keepsV (kd (g j)) (g j 1))), (2, .int (nI j)), (1, .int x1), (0, .ref (B 0))]) hx hb dX9_day_56 rfl hl (by decide) rfl (fun ls hl => ?_)
        refine lv_aload_n hx hb dX9_day_57 rfl (lv_at hl 3 rfl) ?_
        refine m_get (v := .ref (B 3)) hx hb hG hown hF hS (0) rfl rfl iG_9 3 (by decide) kw_474 (fun _ h9 => h9) rfl dX9_day_58 ?_
        refine lv_iload_n hx hb dX9_day_61 rfl (lv_at hl 1 rfl) ?_
        refine m_ialdv (v := g j 3) hx hb hF hS (3) rfl (j) rfl (hj4) (by decide) (by show gup (dayR dy) g j j 3 = g j 3; rw [hga]) dX9_day_62 ?_
        refine lv_iconst (v := 2) hx hb dX9_day_63 (by decide) ?_
        refine lv_icmp_ne (tgt := 92) hx hb dX9_day_64 (by decide) (fun c_7 => absurd (c_3) c_7) (fun c_7 => ?_)
        refine lv_aload_n hx hb dX9_day_67 rfl (lv_at hl 3 rfl) ?_
        refine m_get (v := .int dy) hx hb hG hown hF hS (0) rfl rfl iG_9 10 (by decide) kw_481 (fun _ h9 => h9) rfl dX9_day_68 ?_
        refine lv_aload_n hx hb dX9_day_71 rfl (lv_at hl 3 rfl) ?_
        refine m_get (v := .ref (B 7)) hx hb hG hown hF hS (0) rfl rfl iG_9 7 (by decide) kw_478 (fun _ h9 => h9) rfl dX9_day_72 ?_
        refine lv_iload_n hx hb dX9_day_75 rfl (lv_at hl 1 rfl) ?_
        refine m_ialdv (v := g j 7) hx hb hF hS (7) rfl (j) rfl (hj4) (by decide) (by show gup (dayR dy) g j j 7 = g j 7; rw [hga]) dX9_day_76 ?_
        refine lv_isub hx hb dX9_day_77 ?_
        refine lv_iload_n hx hb dX9_day_78 rfl (lv_at hl 0 rfl) ?_
        refine lv_icmp_lt (tgt := 92) hx hb dX9_day_79 (by decide) (fun c_8 => ?_) (fun c_8 => ?_)
        · obtain ⟨x_9, ex_9⟩ : ∃ y : Int32, y = (nI j) + 1 := ⟨_, rfl⟩
          refine lv_iinc (v := x_9) (lv' := [(2, .int x_9), (3, .int (keepsV (kd (g j)) (g j 1))), (1, .int x1), (0, .ref (B 0))]) hx hb dX9_day_92 hl (k := 1) rfl (by rw [ex_9]; rfl) (by decide) rfl (fun ls hl => ?_)
          refine lv_goto (tgt := 17) hx hb dX9_day_95 (by decide) ?_
          exact ih (j + 1) x_9 x1 ls _ _ (by rw [ex_9]; exact nI_1 j) (by omega) (by rw [dayC]; rw [if_pos c_3, if_pos (by rw [keepK, if_pos h5]; exact c_8), e1]) (by rw [gup_skip (by unfold dayR; rw [if_pos c_3, if_pos (by rw [keepK, if_pos h5]; exact c_8)])]; exact hS) (lv_sub hl [0, 2, 3] rfl)
        · refine lv_aload_n hx hb dX9_day_82 rfl (lv_at hl 3 rfl) ?_
          refine m_get (v := .ref (B 3)) hx hb hG hown hF hS (0) rfl rfl iG_9 3 (by decide) kw_474 (fun _ h9 => h9) rfl dX9_day_83 ?_
          refine lv_iload_n hx hb dX9_day_86 rfl (lv_at hl 1 rfl) ?_
          refine lv_iconst (v := 4) hx hb dX9_day_87 (by decide) ?_
          refine m_iast hx hb hF hS (3) rfl (j) rfl (hj4) (by decide) (wM X B n wm dy tl (gup (dayR dy) g (j + 1)) hs rest false t) (by rw [wM_s3, hga, ← gup_s, show dayR dy (g j) = va_up (g j) 3 4 from by unfold dayR; rw [if_pos c_3, if_neg (by rw [keepK, if_pos h5]; exact c_8)]]) dX9_day_88 (fun H locs hS => ?_)
          obtain ⟨x_9, ex_9⟩ : ∃ y : Int32, y = x1 + 1 := ⟨_, rfl⟩
          refine lv_iinc (v := x_9) (lv' := [(1, .int x_9), (3, .int (keepsV (kd (g j)) (g j 1))), (2, .int (nI j)), (0, .ref (B 0))]) hx hb dX9_day_89 hl (k := 2) rfl (by rw [ex_9]; rfl) (by decide) rfl (fun ls hl => ?_)
          obtain ⟨x_10, ex_10⟩ : ∃ y : Int32, y = (nI j) + 1 := ⟨_, rfl⟩
          refine lv_iinc (v := x_10) (lv' := [(2, .int x_10), (1, .int x_9), (3, .int (keepsV (kd (g j)) (g j 1))), (0, .ref (B 0))]) hx hb dX9_day_92 hl (k := 2) rfl (by rw [ex_10]; rfl) (by decide) rfl (fun ls hl => ?_)
          refine lv_goto (tgt := 17) hx hb dX9_day_95 (by decide) ?_
          exact ih (j + 1) x_10 x_9 ls _ _ (by rw [ex_10]; exact nI_1 j) (by omega) (by rw [dayC]; rw [if_pos c_3, if_neg (by rw [keepK, if_pos h5]; exact c_8), ex_9, e1]) (by exact hS) (lv_sub hl [0, 1, 3] rfl)
      · refine lv_if_eq (tgt := 55) hx hb dX9_day_44 (by decide) (fun c_5 => ?_) (fun c_5 => absurd (keep_no h5 hkj) c_5)
        refine lv_iconst (v := 1) hx hb dX9_day_55 (by decide) ?_
        refine lv_istore_n (lv' := [(3, .int 1), (2, .int (nI j)), (1, .int x1), (0, .ref (B 0))]) hx hb dX9_day_56 rfl hl (by decide) rfl (fun ls hl => ?_)
        refine lv_aload_n hx hb dX9_day_57 rfl (lv_at hl 3 rfl) ?_
        refine m_get (v := .ref (B 3)) hx hb hG hown hF hS (0) rfl rfl iG_9 3 (by decide) kw_474 (fun _ h9 => h9) rfl dX9_day_58 ?_
        refine lv_iload_n hx hb dX9_day_61 rfl (lv_at hl 1 rfl) ?_
        refine m_ialdv (v := g j 3) hx hb hF hS (3) rfl (j) rfl (hj4) (by decide) (by show gup (dayR dy) g j j 3 = g j 3; rw [hga]) dX9_day_62 ?_
        refine lv_iconst (v := 2) hx hb dX9_day_63 (by decide) ?_
        refine lv_icmp_ne (tgt := 92) hx hb dX9_day_64 (by decide) (fun c_6 => absurd (c_3) c_6) (fun c_6 => ?_)
        refine lv_aload_n hx hb dX9_day_67 rfl (lv_at hl 3 rfl) ?_
        refine m_get (v := .int dy) hx hb hG hown hF hS (0) rfl rfl iG_9 10 (by decide) kw_481 (fun _ h9 => h9) rfl dX9_day_68 ?_
        refine lv_aload_n hx hb dX9_day_71 rfl (lv_at hl 3 rfl) ?_
        refine m_get (v := .ref (B 7)) hx hb hG hown hF hS (0) rfl rfl iG_9 7 (by decide) kw_478 (fun _ h9 => h9) rfl dX9_day_72 ?_
        refine lv_iload_n hx hb dX9_day_75 rfl (lv_at hl 1 rfl) ?_
        refine m_ialdv (v := g j 7) hx hb hF hS (7) rfl (j) rfl (hj4) (by decide) (by show gup (dayR dy) g j j 7 = g j 7; rw [hga]) dX9_day_76 ?_
        refine lv_isub hx hb dX9_day_77 ?_
        refine lv_iload_n hx hb dX9_day_78 rfl (lv_at hl 0 rfl) ?_
        refine lv_icmp_lt (tgt := 92) hx hb dX9_day_79 (by decide) (fun c_7 => ?_) (fun c_7 => ?_)
        · obtain ⟨x_8, ex_8⟩ : ∃ y : Int32, y = (nI j) + 1 := ⟨_, rfl⟩
          refine lv_iinc (v := x_8) (lv' := [(2, .int x_8), (3, .int 1), (1, .int x1), (0, .ref (B 0))]) hx hb dX9_day_92 hl (k := 1) rfl (by rw [ex_8]; rfl) (by decide) rfl (fun ls hl => ?_)
          refine lv_goto (tgt := 17) hx hb dX9_day_95 (by decide) ?_
          exact ih (j + 1) x_8 x1 ls _ _ (by rw [ex_8]; exact nI_1 j) (by omega) (by rw [dayC]; rw [if_pos c_3, if_pos (by rw [keepK, if_neg h5]; exact c_7), e1]) (by rw [gup_skip (by unfold dayR; rw [if_pos c_3, if_pos (by rw [keepK, if_neg h5]; exact c_7)])]; exact hS) (lv_sub hl [0, 2, 3] rfl)
        · refine lv_aload_n hx hb dX9_day_82 rfl (lv_at hl 3 rfl) ?_
          refine m_get (v := .ref (B 3)) hx hb hG hown hF hS (0) rfl rfl iG_9 3 (by decide) kw_474 (fun _ h9 => h9) rfl dX9_day_83 ?_
          refine lv_iload_n hx hb dX9_day_86 rfl (lv_at hl 1 rfl) ?_
          refine lv_iconst (v := 4) hx hb dX9_day_87 (by decide) ?_
          refine m_iast hx hb hF hS (3) rfl (j) rfl (hj4) (by decide) (wM X B n wm dy tl (gup (dayR dy) g (j + 1)) hs rest false t) (by rw [wM_s3, hga, ← gup_s, show dayR dy (g j) = va_up (g j) 3 4 from by unfold dayR; rw [if_pos c_3, if_neg (by rw [keepK, if_neg h5]; exact c_7)]]) dX9_day_88 (fun H locs hS => ?_)
          obtain ⟨x_8, ex_8⟩ : ∃ y : Int32, y = x1 + 1 := ⟨_, rfl⟩
          refine lv_iinc (v := x_8) (lv' := [(1, .int x_8), (3, .int 1), (2, .int (nI j)), (0, .ref (B 0))]) hx hb dX9_day_89 hl (k := 2) rfl (by rw [ex_8]; rfl) (by decide) rfl (fun ls hl => ?_)
          obtain ⟨x_9, ex_9⟩ : ∃ y : Int32, y = (nI j) + 1 := ⟨_, rfl⟩
          refine lv_iinc (v := x_9) (lv' := [(2, .int x_9), (1, .int x_8), (3, .int 1), (0, .ref (B 0))]) hx hb dX9_day_92 hl (k := 2) rfl (by rw [ex_9]; rfl) (by decide) rfl (fun ls hl => ?_)
          refine lv_goto (tgt := 17) hx hb dX9_day_95 (by decide) ?_
          exact ih (j + 1) x_9 x_8 ls _ _ (by rw [ex_9]; exact nI_1 j) (by omega) (by rw [dayC]; rw [if_pos c_3, if_neg (by rw [keepK, if_neg h5]; exact c_7), ex_8, e1]) (by exact hS) (lv_sub hl [0, 1, 3] rfl)
set_option maxHeartbeats 4000000 in
set_option maxRecDepth 100000 in
theorem M_day_full (l : Launch) (X : Cx) (B : Nat → Nat) (n : Nat) (wm dy tl : Int32) (g : Nat → Rc) (hs : Nat → Int32) (rest : va_W) (t : Tr) (f : Nat) (h0 : dy = 10000) : cI l yX9_day cX9_day 4 (some .int) (rl f) X [.ref (B 0)] (wM X B n wm dy tl g hs rest false t) (fun v w => v = -4 ∧ w = wM X B n wm dy tl g hs rest false t) := by
  refine met_start (by decide) (Nat.le_of_ble_eq_true rfl) ?_
  intro p e s m below meth c ls fx hS hl
  obtain ⟨hx, hb, hr, hml, hown, hG, hlk, hF, hz, hnm⟩ := fx
  have hown : s.vm.findClass RX9 = some m.cls := hown
  have hl : lv_has ls 4 [(0, .ref (B 0))] := hl
  refine lv_aload_n hx hb dX9_day_0 rfl (lv_at hl 0 rfl) ?_
  refine m_get (v := .int dy) hx hb hG hown hF hS (0) rfl rfl iG_9 10 (by decide) kw_481 (fun _ h9 => h9) rfl dX9_day_1 ?_
  refine lv_sipush (v := 10000) hx hb dX9_day_4 (by decide) ?_
  refine lv_icmp_ne (tgt := 13) hx hb dX9_day_7 (by decide) (fun c_1 => absurd (h0) c_1) (fun c_1 => ?_)
  refine lv_bipush (v := -4) hx hb dX9_day_10 (by decide) ?_
  exact m_iret hx hb hr hlk hS (⟨rfl, rfl⟩) (Nat.le_refl 0) (Nat.le_refl 0) dX9_day_12
set_option maxHeartbeats 4000000 in
set_option maxRecDepth 100000 in
theorem M_day (l : Launch) (X : Cx) (B : Nat → Nat) (n : Nat) (wm dy tl : Int32) (g : Nat → Rc) (hs : Nat → Int32) (rest : va_W) (t : Tr) (f : Nat) (hf : 5 ≤ f) (h0 : ¬ dy = 10000) (hn : n ≤ 40) (hkd : ∀ i, i < n → kd (g i) < 7) (hk0 : ∀ i, i < n → g i 0 = nI (kd (g i))) : cI l yX9_day cX9_day 4 (some .int) (rl f) X [.ref (B 0)] (wM X B n wm dy tl g hs rest false t) (fun v w => v = dayC dy g n ∧ w = wM X B n wm (dy + 1) tl (gup (dayR dy) g n) hs rest false t) := by
  refine met_start (by decide) (Nat.le_of_ble_eq_true rfl) ?_
  intro p e s m below meth c ls fx hS hl
  obtain ⟨hx, hb, hr, hml, hown, hG, hlk, hF, hz, hnm⟩ := fx
  have hown : s.vm.findClass RX9 = some m.cls := hown
  have hl : lv_has ls 4 [(0, .ref (B 0))] := hl
  refine lv_aload_n hx hb dX9_day_0 rfl (lv_at hl 0 rfl) ?_
  refine m_get (v := .int dy) hx hb hG hown hF hS (0) rfl rfl iG_9 10 (by decide) kw_481 (fun _ h9 => h9) rfl dX9_day_1 ?_
  refine lv_sipush (v := 10000) hx hb dX9_day_4 (by decide) ?_
  refine lv_icmp_ne (tgt := 13) hx hb dX9_day_7 (by decide) (fun c_1 => ?_) (fun c_1 => absurd c_1 (h0))
  refine lv_iconst (v := 0) hx hb dX9_day_13 (by decide) ?_
  refine lv_istore_n (lv' := [(1, .int 0), (0, .ref (B 0))]) hx hb dX9_day_14 rfl hl (by decide) rfl (fun ls hl => ?_)
  refine lv_iconst (v := 0) hx hb dX9_day_15 (by decide) ?_
  refine lv_istore_n (lv' := [(2, .int 0), (1, .int 0), (0, .ref (B 0))]) hx hb dX9_day_16 rfl hl (by decide) rfl (fun ls hl => ?_)
  refine Md_loop hn hkd hk0 hx hb hr hml hown hG hlk hF hz ⟨by show 4 + 1 ≤ f; omega, fun k hk => by show 8 + (k + 11) + 27 * 4 ≤ 27 * f; omega⟩ ⟨rfl, rfl⟩ n 0 0 0 ls _ _ nI_0.symm (by omega) rfl (by rw [gup_0]; exact hS) (lv_sub hl [0, 1, 2] rfl)
set_option maxHeartbeats 4000000 in
set_option maxRecDepth 100000 in
theorem M_init (l : Launch) (X : Cx) (x0 x1 x2 x3 x4 : Nat × va_E) (Mo f : Nat) (hf : 1 ≤ f) : cV l yX9_init cX9_init 1 (rr f 9 323) X [.ref Mo] [(Mo, .inr (9, [.int 0, .null, .null, .null, .null, .null, .null, .null, .int 0, .null, .int 0, .int 0, .null, .int 0, .int 0])), x0, x1, x2, x3, x4] (fun w => ∃ b1 b2 b3 b4 b5 b6 b7 b9 b12, w = [(Mo, .inr (9, [.int 0, .ref b1, .ref b2, .ref b3, .ref b4, .ref b5, .ref b6, .ref b7, .int 20, .ref b9, .int 0, .int 0, .ref b12, .int 0, .int 0])), x0, x1, x2, x3, x4, (b1, .inl (X.2.1, 40, .inl (fun _ => 0))), (b2, .inl (X.2.1, 40, .inl (fun _ => 0))), (b3, .inl (X.2.1, 40, .inl (fun _ => 0))), (b4, .inl (X.2.1, 40, .inl (fun _ => 0))), (b5, .inl (X.2.1, 40, .inl (fun _ => 0))), (b6, .inl (X.2.1, 40, .inl (fun _ => 0))), (b7, .inl (X.2.1, 40, .inl (fun _ => 0))), (b9, .inl (X.2.1, 3, .inl (fun _ => 0))), (b12, .inl (X.2.1, 40, .inl (fun _ => 0)))]) := by
  refine met_start (by decide) (Nat.le_of_ble_eq_true rfl) ?_
  intro p e s m below meth c ls fx hS hl
  obtain ⟨hx, hb, hr, hml, hown, hG, hlk, hF, hz, hnm⟩ := fx
  have hown : s.vm.findClass RX9 = some m.cls := hown
  have hl : lv_has ls 1 [(0, .ref Mo)] := hl
  refine lv_aload_n hx hb dX9_init_0 rfl (lv_at hl 0 rfl) ?_
  refine W.objInit hx hb hown (hG _ kw_470) (hG _ kw_35) (hG _ kw_36) rfl (by rw [hml]; exact hl.1) rfl dX9_init_1 (by show 1 ≤ f; omega) (by show _ ≤ 27 * f; first | omega | (simp; omega)) ?_
  refine W.eq (g2 := F0 m 4 ls []) rfl ?_
  refine lv_aload_n hx hb dX9_init_4 rfl (lv_at hl 0 rfl) ?_
  refine lv_bipush (v := 40) hx hb dX9_init_5 (by decide) ?_
  refine m_newa hx hb hG hF hz hS kw_55 40 rfl (by decide) (by show 0 + 1 ≤ 9; decide) (by show 0 + 40 ≤ 323; decide) rfl dX9_init_7 (fun b1 H hS => ?_)
  have hS : mS X s [(Mo, .inr (9, [.int 0, .null, .null, .null, .null, .null, .null, .null, .int 0, .null, .int 0, .int 0, .null, .int 0, .int 0])), x0, x1, x2, x3, x4, (b1, .inl (X.2.1, 40, .inl (fun _ => 0)))] H [] := hS
  refine m_putF hx hb hG hown hF hS (0) rfl rfl iG_9 tyX9_ok nmX9 1 (by decide) kw_472 (fun _ h9 => h9) rfl hnm rfl rfl rfl (Nat.le_of_ble_eq_true rfl) ([(Mo, .inr (9, [.int 0, .ref b1, .null, .null, .null, .null, .null, .null, .int 0, .null, .int 0, .int 0, .null, .int 0, .int 0])), x0, x1, x2, x3, x4, (b1, .inl (X.2.1, 40, .inl (fun _ => 0)))]) rfl dX9_init_9 (fun H locs hS => ?_)
  refine lv_aload_n hx hb dX9_init_12 rfl (lv_at hl 0 rfl) ?_
  refine lv_bipush (v := 40) hx hb dX9_init_13 (by decide) ?_
  refine m_newa hx hb hG hF hz hS kw_55 40 rfl (by decide) (by show 0 + 1 + 1 ≤ 9; decide) (by show 0 + 40 + 40 ≤ 323; decide) rfl dX9_init_15 (fun b2 H hS => ?_)
  have hS : mS X s [(Mo, .inr (9, [.int 0, .ref b1, .null, .null, .null, .null, .null, .null, .int 0, .null, .int 0, .int 0, .null, .int 0, .int 0])), x0, x1, x2, x3, x4, (b1, .inl (X.2.1, 40, .inl (fun _ => 0))), (b2, .inl (X.2.1, 40, .inl (fun _ => 0)))] H locs := hS
  refine m_putF hx hb hG hown hF hS (0) rfl rfl iG_9 tyX9_ok nmX9 2 (by decide) kw_473 (fun _ h9 => h9) rfl hnm rfl rfl rfl (Nat.le_of_ble_eq_true rfl) ([(Mo, .inr (9, [.int 0, .ref b1, .ref b2, .null, .null, .null, .null, .null, .int 0, .null, .int 0, .int 0, .null, .int 0, .int 0])), x0, x1, x2, x3, x4, (b1, .inl (X.2.1, 40, .inl (fun _ => 0))), (b2, .inl (X.2.1, 40, .inl (fun _ => 0)))]) rfl dX9_init_17 (fun H locs hS => ?_)
  refine lv_aload_n hx hb dX9_init_20 rfl (lv_at hl 0 rfl) ?_
  refine lv_bipush (v := 40) hx hb dX9_init_21 (by decide) ?_
  refine m_newa hx hb hG hF hz hS kw_55 40 rfl (by decide) (by show 0 + 1 + 1 + 1 ≤ 9; decide) (by show 0 + 40 + 40 + 40 ≤ 323; decide) rfl dX9_init_23 (fun b3 H hS => ?_)
  have hS : mS X s [(Mo, .inr (9, [.int 0, .ref b1, .ref b2, .null, .null, .null, .null, .null, .int 0, .null, .int 0, .int 0, .null, .int 0, .int 0])), x0, x1, x2, x3, x4, (b1, .inl (X.2.1, 40, .inl (fun _ => 0))), (b2, .inl (X.2.1, 40, .inl (fun _ => 0))), (b3, .inl (X.2.1, 40, .inl (fun _ => 0)))] H locs := hS
  refine m_putF hx hb hG hown hF hS (0) rfl rfl iG_9 tyX9_ok nmX9 3 (by decide) kw_474 (fun _ h9 => h9) rfl hnm rfl rfl rfl (Nat.le_of_ble_eq_true rfl) ([(Mo, .inr (9, [.int 0, .ref b1, .ref b2, .ref b3, .null, .null, .null, .null, .int 0, .null, .int 0, .int 0, .null, .int 0, .int 0])), x0, x1, x2, x3, x4, (b1, .inl (X.2.1, 40, .inl (fun _ => 0))), (b2, .inl (X.2.1, 40, .inl (fun _ => 0))), (b3, .inl (X.2.1, 40, .inl (fun _ => 0)))]) rfl dX9_init_25 (fun H locs hS => ?_)
  refine lv_aload_n hx hb dX9_init_28 rfl (lv_at hl 0 rfl) ?_
  refine lv_bipush (v := 40) hx hb dX9_init_29 (by decide) ?_
  refine m_newa hx hb hG hF hz hS kw_55 40 rfl (by decide) (by show 0 + 1 + 1 + 1 + 1 ≤ 9; decide) (by show 0 + 40 + 40 + 40 + 40 ≤ 323; decide) rfl dX9_init_31 (fun b4 H hS => ?_)
  have hS : mS X s [(Mo, .inr (9, [.int 0, .ref b1, .ref b2, .ref b3, .null, .null, .null, .null, .int 0, .null, .int 0, .int 0, .null, .int 0, .int 0])), x0, x1, x2, x3, x4, (b1, .inl (X.2.1, 40, .inl (fun _ => 0))), (b2, .inl (X.2.1, 40, .inl (fun _ => 0))), (b3, .inl (X.2.1, 40, .inl (fun _ => 0))), (b4, .inl (X.2.1, 40, .inl (fun _ => 0)))] H locs := hS
  refine m_putF hx hb hG hown hF hS (0) rfl rfl iG_9 tyX9_ok nmX9 4 (by decide) kw_475 (fun _ h9 => h9) rfl hnm rfl rfl rfl (Nat.le_of_ble_eq_true rfl) ([(Mo, .inr (9, [.int 0, .ref b1, .ref b2, .ref b3, .ref b4, .null, .null, .null, .int 0, .null, .int 0, .int 0, .null, .int 0, .int 0])), x0, x1, x2, x3, x4, (b1, .inl (X.2.1, 40, .inl (fun _ => 0))), (b2, .inl (X.2.1, 40, .inl (fun _ => 0))), (b3, .inl (X.2.1, 40, .inl (fun _ => 0))), (b4, .inl (X.2.1, 40, .inl (fun _ => 0)))]) rfl dX9_init_33 (fun H locs hS => ?_)
  refine lv_aload_n hx hb dX9_init_36 rfl (lv_at hl 0 rfl) ?_
  refine lv_bipush (v := 40) hx hb dX9_init_37 (by decide) ?_
  refine m_newa hx hb hG hF hz hS kw_55 40 rfl (by decide) (by show 0 + 1 + 1 + 1 + 1 + 1 ≤ 9; decide) (by show 0 + 40 + 40 + 40 + 40 + 40 ≤ 323; decide) rfl dX9_init_39 (fun b5 H hS => ?_)
  have hS : mS X s [(Mo, .inr (9, [.int 0, .ref b1, .ref b2, .ref b3, .ref b4, .null, .null, .null, .int 0, .null, .int 0, .int 0, .null, .int 0, .int 0])), x0, x1, x2, x3, x4, (b1, .inl (X.2.1, 40, .inl (fun _ => 0))), (b2, .inl (X.2.1, 40, .inl (fun _ => 0))), (b3, .inl (X.2.1, 40, .inl (fun _ => 0))), (b4, .inl (X.2.1, 40, .inl (fun _ => 0))), (b5, .inl (X.2.1, 40, .inl (fun _ => 0)))] H locs := hS
  refine m_putF hx hb hG hown hF hS (0) rfl rfl iG_9 tyX9_ok nmX9 5 (by decide) kw_476 (fun _ h9 => h9) rfl hnm rfl rfl rfl (Nat.le_of_ble_eq_true rfl) ([(Mo, .inr (9, [.int 0, .ref b1, .ref b2, .ref b3, .ref b4, .ref b5, .null, .null, .int 0, .null, .int 0, .int 0, .null, .int 0, .int 0])), x0, x1, x2, x3, x4, (b1, .inl (X.2.1, 40, .inl (fun _ => 0))), (b2, .inl (X.2.1, 40, .inl (fun _ => 0))), (b3, .inl (X.2.1, 40, .inl (fun _ => 0))), (b4, .inl (X.2.1, 40, .inl (fun _ => 0))), (b5, .inl (X.2.1, 40, .inl (fun _ => 0)))]) rfl dX9_init_41 (fun H locs hS => ?_)
  refine lv_aload_n hx hb dX9_init_44 rfl (lv_at hl 0 rfl) ?_
  refine lv_bipush (v := 40) hx hb dX9_init_45 (by decide) ?_
  refine m_newa hx hb hG hF hz hS kw_55 40 rfl (by decide) (by show 0 + 1 + 1 + 1 + 1 + 1 + 1 ≤ 9; decide) (by show 0 + 40 + 40 + 40 + 40 + 40 + 40 ≤ 323; decide) rfl dX9_init_47 (fun b6 H hS => ?_)
  have hS : mS X s [(Mo, .inr (9, [.int 0, .ref b1, .ref b2, .ref b3, .ref b4, .ref b5, .null, .null, .int 0, .null, .int 0, .int 0, .null, .int 0, .int 0])), x0, x1, x2, x3, x4, (b1, .inl (X.2.1, 40, .inl (fun _ => 0))), (b2, .inl (X.2.1, 40, .inl (fun _ => 0))), (b3, .inl (X.2.1, 40, .inl (fun _ => 0))), (b4, .inl (X.2.1, 40, .inl (fun _ => 0))), (b5, .inl (X.2.1, 40, .inl (fun _ => 0))), (b6, .inl (X.2.1, 40, .inl (fun _ => 0)))] H locs := hS
  refine m_putF hx hb hG hown hF hS (0) rfl rfl iG_9 tyX9_ok nmX9 6 (by decide) kw_477 (fun _ h9 => h9) rfl hnm rfl rfl rfl (Nat.le_of_ble_eq_true rfl) ([(Mo, .inr (9, [.int 0, .ref b1, .ref b2, .ref b3, .ref b4, .ref b5, .ref b6, .null, .int 0, .null, .int 0, .int 0, .null, .int 0, .int 0])), x0, x1, x2, x3, x4, (b1, .inl (X.2.1, 40, .inl (fun _ => 0))), (b2, .inl (X.2.1, 40, .inl (fun _ => 0))), (b3, .inl (X.2.1, 40, .inl (fun _ => 0))), (b4, .inl (X.2.1, 40, .inl (fun _ => 0))), (b5, .inl (X.2.1, 40, .inl (fun _ => 0))), (b6, .inl (X.2.1, 40, .inl (fun _ => 0)))]) rfl dX9_init_49 (fun H locs hS => ?_)
  refine lv_aload_n hx hb dX9_init_52 rfl (lv_at hl 0 rfl) ?_
  refine lv_bipush (v := 40) hx hb dX9_init_53 (by decide) ?_
  refine m_newa hx hb hG hF hz hS kw_55 40 rfl (by decide) (by show 0 + 1 + 1 + 1 + 1 + 1 + 1 + 1 ≤ 9; decide) (by show 0 + 40 + 40 + 40 + 40 + 40 + 40 + 40 ≤ 323; decide) rfl dX9_init_55 (fun b7 H hS => ?_)
  have hS : mS X s [(Mo, .inr (9, [.int 0, .ref b1, .ref b2, .ref b3, .ref b4, .ref b5, .ref b6, .null, .int 0, .null, .int 0, .int 0, .null, .int 0, .int 0])), x0, x1, x2, x3, x4, (b1, .inl (X.2.1, 40, .inl (fun _ => 0))), (b2, .inl (X.2.1, 40, .inl (fun _ => 0))), (b3, .inl (X.2.1, 40, .inl (fun _ => 0))), (b4, .inl (X.2.1, 40, .inl (fun _ => 0))), (b5, .inl (X.2.1, 40, .inl (fun _ => 0))), (b6, .inl (X.2.1, 40, .inl (fun _ => 0))), (b7, .inl (X.2.1, 40, .inl (fun _ => 0)))] H locs := hS
  refine m_putF hx hb hG hown hF hS (0) rfl rfl iG_9 tyX9_ok nmX9 7 (by decide) kw_478 (fun _ h9 => h9) rfl hnm rfl rfl rfl (Nat.le_of_ble_eq_true rfl) ([(Mo, .inr (9, [.int 0, .ref b1, .ref b2, .ref b3, .ref b4, .ref b5, .ref b6, .ref b7, .int 0, .null, .int 0, .int 0, .null, .int 0, .int 0])), x0, x1, x2, x3, x4, (b1, .inl (X.2.1, 40, .inl (fun _ => 0))), (b2, .inl (X.2.1, 40, .inl (fun _ => 0))), (b3, .inl (X.2.1, 40, .inl (fun _ => 0))), (b4, .inl (X.2.1, 40, .inl (fun _ => 0))), (b5, .inl (X.2.1, 40, .inl (fun _ => 0))), (b6, .inl (X.2.1, 40, .inl (fun _ => 0))), (b7, .inl (X.2.1, 40, .inl (fun _ => 0)))]) rfl dX9_init_57 (fun H locs hS => ?_)
  refine lv_aload_n hx hb dX9_init_60 rfl (lv_at hl 0 rfl) ?_
  refine lv_bipush (v := 20) hx hb dX9_init_61 (by decide) ?_
  refine m_put hx hb hG hown hF hS (0) rfl rfl iG_9 tyX9_ok nmX9 8 (by decide) kw_479 (fun _ h9 => h9) rfl rfl rfl (Nat.le_of_ble_eq_true rfl) ([(Mo, .inr (9, [.int 0, .ref b1, .ref b2, .ref b3, .ref b4, .ref b5, .ref b6, .ref b7, .int 20, .null, .int 0, .int 0, .null, .int 0, .int 0])), x0, x1, x2, x3, x4, (b1, .inl (X.2.1, 40, .inl (fun _ => 0))), (b2, .inl (X.2.1, 40, .inl (fun _ => 0))), (b3, .inl (X.2.1, 40, .inl (fun _ => 0))), (b4, .inl (X.2.1, 40, .inl (fun _ => 0))), (b5, .inl (X.2.1, 40, .inl (fun _ => 0))), (b6, .inl (X.2.1, 40, .inl (fun _ => 0))), (b7, .inl (X.2.1, 40, .inl (fun _ => 0)))]) rfl dX9_init_63 (fun H locs hS => ?_)
  refine lv_aload_n hx hb dX9_init_66 rfl (lv_at hl 0 rfl) ?_
  refine lv_iconst (v := 3) hx hb dX9_init_67 (by decide) ?_
  refine m_newa hx hb hG hF hz hS kw_55 3 rfl (by decide) (by show 0 + 1 + 1 + 1 + 1 + 1 + 1 + 1 + 1 ≤ 9; decide) (by show 0 + 40 + 40 + 40 + 40 + 40 + 40 + 40 + 3 ≤ 323; decide) rfl dX9_init_68 (fun b9 H hS => ?_)
  have hS : mS X s [(Mo, .inr (9, [.int 0, .ref b1, .ref b2, .ref b3, .ref b4, .ref b5, .ref b6, .ref b7, .int 20, .null, .int 0, .int 0, .null, .int 0, .int 0])), x0, x1, x2, x3, x4, (b1, .inl (X.2.1, 40, .inl (fun _ => 0))), (b2, .inl (X.2.1, 40, .inl (fun _ => 0))), (b3, .inl (X.2.1, 40, .inl (fun _ => 0))), (b4, .inl (X.2.1, 40, .inl (fun _ => 0))), (b5, .inl (X.2.1, 40, .inl (fun _ => 0))), (b6, .inl (X.2.1, 40, .inl (fun _ => 0))), (b7, .inl (X.2.1, 40, .inl (fun _ => 0))), (b9, .inl (X.2.1, 3, .inl (fun _ => 0)))] H locs := hS
  refine m_putF hx hb hG hown hF hS (0) rfl rfl iG_9 tyX9_ok nmX9 9 (by decide) kw_480 (fun _ h9 => h9) rfl hnm rfl rfl rfl (Nat.le_of_ble_eq_true rfl) ([(Mo, .inr (9, [.int 0, .ref b1, .ref b2, .ref b3, .ref b4, .ref b5, .ref b6, .ref b7, .int 20, .ref b9, .int 0, .int 0, .null, .int 0, .int 0])), x0, x1, x2, x3, x4, (b1, .inl (X.2.1, 40, .inl (fun _ => 0))), (b2, .inl (X.2.1, 40, .inl (fun _ => 0))), (b3, .inl (X.2.1, 40, .inl (fun _ => 0))), (b4, .inl (X.2.1, 40, .inl (fun _ => 0))), (b5, .inl (X.2.1, 40, .inl (fun _ => 0))), (b6, .inl (X.2.1, 40, .inl (fun _ => 0))), (b7, .inl (X.2.1, 40, .inl (fun _ => 0))), (b9, .inl (X.2.1, 3, .inl (fun _ => 0)))]) rfl dX9_init_70 (fun H locs hS => ?_)
  refine lv_aload_n hx hb dX9_init_73 rfl (lv_at hl 0 rfl) ?_
  refine lv_bipush (v := 40) hx hb dX9_init_74 (by decide) ?_
  refine m_newa hx hb hG hF hz hS kw_55 40 rfl (by decide) (by show 0 + 1 + 1 + 1 + 1 + 1 + 1 + 1 + 1 + 1 ≤ 9; decide) (by show 0 + 40 + 40 + 40 + 40 + 40 + 40 + 40 + 3 + 40 ≤ 323; decide) rfl dX9_init_76 (fun b12 H hS => ?_)
  have hS : mS X s [(Mo, .inr (9, [.int 0, .ref b1, .ref b2, .ref b3, .ref b4, .ref b5, .ref b6, .ref b7, .int 20, .ref b9, .int 0, .int 0, .null, .int 0, .int 0])), x0, x1, x2, x3, x4, (b1, .inl (X.2.1, 40, .inl (fun _ => 0))), (b2, .inl (X.2.1, 40, .inl (fun _ => 0))), (b3, .inl (X.2.1, 40, .inl (fun _ => 0))), (b4, .inl (X.2.1, 40, .inl (fun _ => 0))), (b5, .inl (X.2.1, 40, .inl (fun _ => 0))), (b6, .inl (X.2.1, 40, .inl (fun _ => 0))), (b7, .inl (X.2.1, 40, .inl (fun _ => 0))), (b9, .inl (X.2.1, 3, .inl (fun _ => 0))), (b12, .inl (X.2.1, 40, .inl (fun _ => 0)))] H locs := hS
  refine m_putF hx hb hG hown hF hS (0) rfl rfl iG_9 tyX9_ok nmX9 12 (by decide) kw_483 (fun _ h9 => h9) rfl hnm rfl rfl rfl (Nat.le_of_ble_eq_true rfl) ([(Mo, .inr (9, [.int 0, .ref b1, .ref b2, .ref b3, .ref b4, .ref b5, .ref b6, .ref b7, .int 20, .ref b9, .int 0, .int 0, .ref b12, .int 0, .int 0])), x0, x1, x2, x3, x4, (b1, .inl (X.2.1, 40, .inl (fun _ => 0))), (b2, .inl (X.2.1, 40, .inl (fun _ => 0))), (b3, .inl (X.2.1, 40, .inl (fun _ => 0))), (b4, .inl (X.2.1, 40, .inl (fun _ => 0))), (b5, .inl (X.2.1, 40, .inl (fun _ => 0))), (b6, .inl (X.2.1, 40, .inl (fun _ => 0))), (b7, .inl (X.2.1, 40, .inl (fun _ => 0))), (b9, .inl (X.2.1, 3, .inl (fun _ => 0))), (b12, .inl (X.2.1, 40, .inl (fun _ => 0)))]) rfl dX9_init_78 (fun H locs hS => ?_)
  exact m_vret hx hb hr hlk hS ⟨b1, b2, b3, b4, b5, b6, b7, b9, b12, rfl⟩ (by show 0 + 1 + 1 + 1 + 1 + 1 + 1 + 1 + 1 + 1 ≤ 9; decide) (by show 0 + 40 + 40 + 40 + 40 + 40 + 40 + 40 + 3 + 40 ≤ 323; decide) dX9_init_81
