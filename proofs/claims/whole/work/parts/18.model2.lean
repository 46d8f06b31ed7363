theorem te_nil (r : Bool) (t : Tr) : te r [] t = t := by cases r <;> rfl
set_option maxHeartbeats 4000000 in
set_option maxRecDepth 100000 in
theorem M_answer (l : Launch) (X : Cx) (B : Nat → Nat) (n : Nat) (wm dy tl : Int32) (g : Nat → Rc) (hs : Nat → Int32) (rest : va_W) (r : Bool) (t : Tr) (j q : Nat) (w : Int32) (f : Nat) (hj : j < n) (hq : q < 6) (hf : 5 ≤ f) (ht : tR r 10 t) (hn : n ≤ 40) (hkd : ∀ i, i < n → kd (g i) < 7) (hk0 : ∀ i, i < n → g i 0 = nI (kd (g i))) : cI l yX9_answer cX9_answer 4 (some .int) (rl f) X [.ref (B 0), .int (nI j), .int (nI q), .int w] (wM X B n wm dy tl g hs rest r t) (fun v w' => v = askV (g j) q w ∧ w' = wM X B n wm dy tl g hs rest r (te r (askT (g j) q) t)) := by
  refine met_start (by decide) (Nat.le_of_ble_eq_true rfl) ?_
  intro p e s m below meth c ls fx hS hl
  obtain ⟨hx, hb, hr, hml, hown, hG, hlk, hF, hz, hnm⟩ := fx
  have hown : s.vm.findClass RX9 = some m.cls := hown
  have hl : lv_has ls 4 [(0, .ref (B 0)), (1, .int (nI j)), (2, .int (nI q)), (3, .int w)] := hl
  have hj4 : j < 40 := by omega
  refine lv_iload_n hx hb dX9_answer_0 rfl (lv_at hl 2 rfl) ?_
  match q, hq with
  | 0, _ =>
    refine lv_tableIn (off := 35) (tgt := 36) hx hb dX9_answer_1 (by decide) (by decide) (by decide) (by decide) ?_
    refine lv_aload_n hx hb dX9_answer_36 rfl (lv_at hl 0 rfl) ?_
    refine lv_iload_n hx hb dX9_answer_37 rfl (lv_at hl 1 rfl) ?_
    refine lv_iload_n hx hb dX9_answer_38 rfl (lv_at hl 3 rfl) ?_
    refine m_ci (m_runV (n := 2) (rest := []) ⟨hx, hb, hml, hown, hG⟩ (M_rise l X B n wm dy tl g hs rest r t j (kd (g j)) w 1 hj4 (hk0 j hj) (hkd j hj) (by decide) (ht.le (by decide))) kw_536 kw_538 kw_8 kw_20 kw_539 (by decide +kernel) (rl_ok (by omega) (by decide)) hF hz hS (q0 := 0) rfl rfl rfl hl.1 rfl (Nat.le_of_ble_eq_true rfl) dX9_answer_39 ⟨Nat.zero_le _, Nat.zero_le _⟩) hS (fun r_1 w1 H locs hw1 hS => ?_)
    obtain ⟨rfl, rfl⟩ := hw1
    exact m_iret hx hb hr hlk hS (⟨rfl, rfl⟩) (Nat.le_refl 0) (Nat.le_refl 0) dX9_answer_42
  | 1, _ =>
    refine lv_tableIn (off := 42) (tgt := 43) hx hb dX9_answer_1 (by decide) (by decide) (by decide) (by decide) ?_
    refine lv_aload_n hx hb dX9_answer_43 rfl (lv_at hl 0 rfl) ?_
    refine lv_iload_n hx hb dX9_answer_44 rfl (lv_at hl 1 rfl) ?_
    refine m_ci (m_runV (n := 1) (rest := []) ⟨hx, hb, hml, hown, hG⟩ (M_need l X B n wm dy tl g hs rest r t j (kd (g j)) 2 hj4 (hk0 j hj) (hkd j hj) (by decide) (ht.le (by decide))) kw_544 kw_546 kw_10 kw_20 kw_547 (by decide +kernel) (rl_ok (by omega) (by decide)) hF hz hS (q0 := 0) rfl rfl rfl hl.1 rfl (Nat.le_of_ble_eq_true rfl) dX9_answer_45 ⟨Nat.zero_le _, Nat.zero_le _⟩) hS (fun r_1 w1 H locs hw1 hS => ?_)
    obtain ⟨rfl, rfl⟩ := hw1
    exact m_iret hx hb hr hlk hS (⟨rfl, rfl⟩) (Nat.le_refl 0) (Nat.le_refl 0) dX9_answer_48
  | 2, _ =>
    refine lv_tableIn (off := 48) (tgt := 49) hx hb dX9_answer_1 (by decide) (by decide) (by decide) (by decide) ?_
    refine lv_aload_n hx hb dX9_answer_49 rfl (lv_at hl 0 rfl) ?_
    refine lv_iload_n hx hb dX9_answer_50 rfl (lv_at hl 1 rfl) ?_
    refine lv_iload_n hx hb dX9_answer_51 rfl (lv_at hl 3 rfl) ?_
    refine m_ci (m_runV (n := 2) (rest := []) ⟨hx, hb, hml, hown, hG⟩ (M_brown l X B n wm dy tl g hs rest r t j (kd (g j)) w 1 hj4 (hk0 j hj) (hkd j hj) (by decide) (ht.le (by decide))) kw_548 kw_550 kw_11 kw_20 kw_551 (by decide +kernel) (rl_ok (by omega) (by decide)) hF hz hS (q0 := 0) rfl rfl rfl hl.1 rfl (Nat.le_of_ble_eq_true rfl) dX9_answer_52 ⟨Nat.zero_le _, Nat.zero_le _⟩) hS (fun r_1 w1 H locs hw1 hS => ?_)
    obtain ⟨rfl, rfl⟩ := hw1
    exact m_iret hx hb hr hlk hS (⟨rfl, rfl⟩) (Nat.le_refl 0) (Nat.le_refl 0) dX9_answer_55
  | 3, _ =>
    refine lv_tableIn (off := 55) (tgt := 56) hx hb dX9_answer_1 (by decide) (by decide) (by decide) (by decide) ?_
    refine lv_aload_n hx hb dX9_answer_56 rfl (lv_at hl 0 rfl) ?_
    refine lv_iload_n hx hb dX9_answer_57 rfl (lv_at hl 1 rfl) ?_
    refine m_ci (m_runV (n := 1) (rest := []) ⟨hx, hb, hml, hown, hG⟩ (M_price l X B n wm dy tl g hs rest r t j (kd (g j)) 3 hj4 (hk0 j hj) (hkd j hj) (by decide) (ht.le (by decide))) kw_552 kw_554 kw_12 kw_20 kw_555 (by decide +kernel) (rl_ok (by omega) (by decide)) hF hz hS (q0 := 0) rfl rfl rfl hl.1 rfl (Nat.le_of_ble_eq_true rfl) dX9_answer_58 ⟨Nat.zero_le _, Nat.zero_le _⟩) hS (fun r_1 w1 H locs hw1 hS => ?_)
    obtain ⟨rfl, rfl⟩ := hw1
    exact m_iret hx hb hr hlk hS (⟨rfl, rfl⟩) (Nat.le_refl 0) (Nat.le_refl 0) dX9_answer_61
  | 4, _ =>
    refine lv_tableIn (off := 61) (tgt := 62) hx hb dX9_answer_1 (by decide) (by decide) (by decide) (by decide) ?_
    refine lv_aload_n hx hb dX9_answer_62 rfl (lv_at hl 0 rfl) ?_
    refine m_get (v := .ref (B 1)) hx hb hG hown hF hS (0) rfl rfl iG_9 1 (by decide) kw_472 (fun _ h9 => h9) rfl dX9_answer_63 ?_
    refine lv_iload_n hx hb dX9_answer_66 rfl (lv_at hl 1 rfl) ?_
    refine m_ialdv (v := nI (kd (g j))) hx hb hF hS (1) rfl (j) rfl (hj4) (by decide) (hk0 j hj) dX9_answer_67 ?_
    refine m_ci (m_runS (n := 1) (rest := []) ⟨hx, hb, hml, hown, hG⟩ (M_isKeeping l X _ (nI (kd (g j))) 1 (by decide)) kw_556 kw_557 kw_20 kw_558 (by decide +kernel) (rl_ok (by omega) (by decide)) hF hz hS rfl hl.1 rfl (Nat.le_of_ble_eq_true rfl) dX9_answer_68 ⟨Nat.zero_le _, Nat.zero_le _⟩) hS (fun r_1 w1 H locs hw1 hS => ?_)
    obtain ⟨rfl, rfl⟩ := hw1
    by_cases h5 : 2 ≤ kd (g j) ∧ kd (g j) < 5
    · refine lv_if_eq (tgt := 82) hx hb dX9_answer_71 (by decide) (fun c_2 => absurd c_2 (by rw [keep_yes h5.1 h5.2]; decide)) (fun c_2 => ?_)
      refine lv_aload_n hx hb dX9_answer_74 rfl (lv_at hl 0 rfl) ?_
      refine lv_iload_n hx hb dX9_answer_75 rfl (lv_at hl 1 rfl) ?_
      refine m_ci (m_runV (n := 1) (rest := []) ⟨hx, hb, hml, hown, hG⟩ (M_keeps l X B n wm dy tl g hs rest r t j (kd (g j)) 4 hj4 (hk0 j hj) h5.1 h5.2 (by decide) (ht.le (by decide))) kw_559 kw_561 kw_13 kw_20 kw_562 (by decide +kernel) (rl_ok (by omega) (by decide)) hF hz hS (q0 := 0) rfl rfl rfl hl.1 rfl (Nat.le_of_ble_eq_true rfl) dX9_answer_76 ⟨Nat.zero_le _, Nat.zero_le _⟩) hS (fun r_3 w2 H locs hw2 hS => ?_)
      obtain ⟨rfl, rfl⟩ := hw2
      refine lv_goto (tgt := 84) hx hb dX9_answer_79 (by decide) ?_
      exact m_iret hx hb hr hlk hS (⟨by show _ = if 2 ≤ kd (g j) ∧ kd (g j) < 5 then _ else _; rw [if_pos h5], by show _ = wM X B n wm dy tl g hs rest r (te r (if 2 ≤ kd (g j) ∧ kd (g j) < 5 then _ else _) t); rw [if_pos h5]⟩) (Nat.le_refl 0) (Nat.le_refl 0) dX9_answer_84
    · refine lv_if_eq (tgt := 82) hx hb dX9_answer_71 (by decide) (fun c_2 => ?_) (fun c_2 => absurd (keep_no h5 (hkd j hj)) c_2)
      refine lv_bipush (v := -3) hx hb dX9_answer_82 (by decide) ?_
      exact m_iret hx hb hr hlk hS (⟨by show _ = if 2 ≤ kd (g j) ∧ kd (g j) < 5 then _ else _; rw [if_neg h5], by show _ = wM X B n wm dy tl g hs rest r (te r (if 2 ≤ kd (g j) ∧ kd (g j) < 5 then _ else _) t); rw [if_neg h5, te_nil]⟩) (Nat.le_refl 0) (Nat.le_refl 0) dX9_answer_84
  | 5, _ =>
    refine lv_tableOut (tgt := 85) hx hb dX9_answer_1 (by decide) (by decide) ?_
    refine lv_aload_n hx hb dX9_answer_85 rfl (lv_at hl 0 rfl) ?_
    refine m_get (v := .ref (B 1)) hx hb hG hown hF hS (0) rfl rfl iG_9 1 (by decide) kw_472 (fun _ h9 => h9) rfl dX9_answer_86 ?_
    refine lv_iload_n hx hb dX9_answer_89 rfl (lv_at hl 1 rfl) ?_
    refine m_ialdv (v := nI (kd (g j))) hx hb hF hS (1) rfl (j) rfl (hj4) (by decide) (hk0 j hj) dX9_answer_90 ?_
    refine m_ci (m_runS (n := 1) (rest := []) ⟨hx, hb, hml, hown, hG⟩ (M_isGlazed l X _ (nI (kd (g j))) 0) kw_563 kw_564 kw_20 kw_565 (by decide +kernel) (rl_ok (by omega) (by decide)) hF hz hS rfl hl.1 rfl (Nat.le_of_ble_eq_true rfl) dX9_answer_91 ⟨Nat.zero_le _, Nat.zero_le _⟩) hS (fun r_1 w1 H locs hw1 hS => ?_)
    obtain ⟨rfl, rfl⟩ := hw1
    by_cases h5 : 5 ≤ kd (g j)
    · refine lv_if_eq (tgt := 105) hx hb dX9_answer_94 (by decide) (fun c_2 => absurd c_2 (by rw [glaz_yes h5 (hkd j hj)]; decide)) (fun c_2 => ?_)
      refine lv_aload_n hx hb dX9_answer_97 rfl (lv_at hl 0 rfl) ?_
      refine lv_iload_n hx hb dX9_answer_98 rfl (lv_at hl 1 rfl) ?_
      refine m_ci (m_runV (n := 1) (rest := []) ⟨hx, hb, hml, hown, hG⟩ (M_glaze l X B n wm dy tl g hs rest r t j (kd (g j)) 4 hj4 (hk0 j hj) h5 (hkd j hj) (by decide) (ht.le (by decide))) kw_566 kw_568 kw_14 kw_20 kw_569 (by decide +kernel) (rl_ok (by omega) (by decide)) hF hz hS (q0 := 0) rfl rfl rfl hl.1 rfl (Nat.le_of_ble_eq_true rfl) dX9_answer_99 ⟨Nat.zero_le _, Nat.zero_le _⟩) hS (fun r_3 w2 H locs hw2 hS => ?_)
      obtain ⟨rfl, rfl⟩ := hw2
      refine lv_goto (tgt := 107) hx hb dX9_answer_102 (by decide) ?_
      exact m_iret hx hb hr hlk hS (⟨by show _ = if 5 ≤ kd (g j) then _ else _; rw [if_pos h5], by show _ = wM X B n wm dy tl g hs rest r (te r (if 5 ≤ kd (g j) then _ else _) t); rw [if_pos h5]⟩) (Nat.le_refl 0) (Nat.le_refl 0) dX9_answer_107
    · refine lv_if_eq (tgt := 105) hx hb dX9_answer_94 (by decide) (fun c_2 => ?_) (fun c_2 => absurd (glaz_no h5) c_2)
      refine lv_bipush (v := -3) hx hb dX9_answer_105 (by decide) ?_
      exact m_iret hx hb hr hlk hS (⟨by show _ = if 5 ≤ kd (g j) then _ else _; rw [if_neg h5], by show _ = wM X B n wm dy tl g hs rest r (te r (if 5 ≤ kd (g j) then _ else _) t); rw [if_neg h5, te_nil]⟩) (Nat.le_refl 0) (Nat.le_refl 0) dX9_answer_107
set_option maxHeartbeats 4000000 in
set_option maxRecDepth 100000 in
theorem M_ask_nob (l : Launch) (X : Cx) (B : Nat → Nat) (n : Nat) (wm dy tl : Int32) (g : Nat → Rc) (hs : Nat → Int32) (rest : va_W) (t : Tr) (b : Int32) (x0 : Int32) (x1 : Int32) (f : Nat) (hf : 2 ≤ f) (hn : n ≤ 40) (hb0 : b < 0 ∨ nI n ≤ b) : cI l yX9_ask cX9_ask 5 (some .int) (rl f) X [.ref (B 0), .int b, .int x0, .int x1] (wM X B n wm dy tl g hs rest false t) (fun v w => v = -2 ∧ w = wM X B n wm dy tl g hs rest false t) := by
  refine met_start (by decide) (Nat.le_of_ble_eq_true rfl) ?_
  intro p e s m below meth c ls fx hS hl
  obtain ⟨hx, hb, hr, hml, hown, hG, hlk, hF, hz, hnm⟩ := fx
  have hown : s.vm.findClass RX9 = some m.cls := hown
  have hl : lv_has ls 5 [(0, .ref (B 0)), (1, .int b), (2, .int x0), (3, .int x1)] := hl
  refine lv_aload_n hx hb dX9_ask_0 rfl (lv_at hl 0 rfl) ?_
  refine lv_iload_n hx hb dX9_ask_1 rfl (lv_at hl 1 rfl) ?_
  refine m_ci (m_runV (n := 1) (rest := []) ⟨hx, hb, hml, hown, hG⟩ (M_isBatch l X B n wm dy tl g hs rest false t b 1 (by decide)) kw_528 kw_530 kw_6 kw_20 kw_531 (by decide +kernel) (rl_ok (by omega) (by decide)) hF hz hS (q0 := 0) rfl rfl rfl hl.1 rfl (Nat.le_of_ble_eq_true rfl) dX9_ask_2 ⟨Nat.zero_le _, Nat.zero_le _⟩) hS (fun r_1 w1 H locs hw1 hS => ?_)
  obtain ⟨rfl, rfl⟩ := hw1
  refine lv_if_eq (tgt := 47) hx hb dX9_ask_5 (by decide) (fun c_2 => ?_) (fun c_2 => absurd (isB_no hn hb0) c_2)
  refine lv_bipush (v := -2) hx hb dX9_ask_47 (by decide) ?_
  exact m_iret hx hb hr hlk hS (⟨rfl, rfl⟩) (Nat.le_refl 0) (Nat.le_refl 0) dX9_ask_49
set_option maxHeartbeats 4000000 in
set_option maxRecDepth 100000 in
theorem M_bake_nob (l : Launch) (X : Cx) (B : Nat → Nat) (n : Nat) (wm dy tl : Int32) (g : Nat → Rc) (hs : Nat → Int32) (rest : va_W) (t : Tr) (b : Int32) (x0 : Int32) (f : Nat) (hf : 2 ≤ f) (hn : n ≤ 40) (hb0 : b < 0 ∨ nI n ≤ b) : cI l yX9_bake cX9_bake 3 (some .int) (rl f) X [.ref (B 0), .int b, .int x0] (wM X B n wm dy tl g hs rest false t) (fun v w => v = -2 ∧ w = wM X B n wm dy tl g hs rest false t) := by
  refine met_start (by decide) (Nat.le_of_ble_eq_true rfl) ?_
  intro p e s m below meth c ls fx hS hl
  obtain ⟨hx, hb, hr, hml, hown, hG, hlk, hF, hz, hnm⟩ := fx
  have hown : s.vm.findClass RX9 = some m.cls := hown
  have hl : lv_has ls 3 [(0, .ref (B 0)), (1, .int b), (2, .int x0)] := hl
  refine lv_aload_n hx hb dX9_bake_0 rfl (lv_at hl 0 rfl) ?_
  refine lv_iload_n hx hb dX9_bake_1 rfl (lv_at hl 1 rfl) ?_
  refine m_ci (m_runV (n := 1) (rest := []) ⟨hx, hb, hml, hown, hG⟩ (M_isBatch l X B n wm dy tl g hs rest false t b 1 (by decide)) kw_528 kw_530 kw_6 kw_20 kw_531 (by decide +kernel) (rl_ok (by omega) (by decide)) hF hz hS (q0 := 0) rfl rfl rfl hl.1 rfl (Nat.le_of_ble_eq_true rfl) dX9_bake_2 ⟨Nat.zero_le _, Nat.zero_le _⟩) hS (fun r_1 w1 H locs hw1 hS => ?_)
  obtain ⟨rfl, rfl⟩ := hw1
  refine lv_if_eq (tgt := 17) hx hb dX9_bake_5 (by decide) (fun c_2 => ?_) (fun c_2 => absurd (isB_no hn hb0) c_2)
  refine lv_bipush (v := -2) hx hb dX9_bake_17 (by decide) ?_
  exact m_iret hx hb hr hlk hS (⟨rfl, rfl⟩) (Nat.le_refl 0) (Nat.le_refl 0) dX9_bake_19
set_option maxHeartbeats 4000000 in
set_option maxRecDepth 100000 in
theorem M_out_nob (l : Launch) (X : Cx) (B : Nat → Nat) (n : Nat) (wm dy tl : Int32) (g : Nat → Rc) (hs : Nat → Int32) (rest : va_W) (t : Tr) (b : Int32) (f : Nat) (hf : 2 ≤ f) (hn : n ≤ 40) (hb0 : b < 0 ∨ nI n ≤ b) : cI l yX9_out cX9_out 2 (some .int) (rl f) X [.ref (B 0), .int b] (wM X B n wm dy tl g hs rest false t) (fun v w => v = -2 ∧ w = wM X B n wm dy tl g hs rest false t) := by
  refine met_start (by decide) (Nat.le_of_ble_eq_true rfl) ?_
  intro p e s m below meth c ls fx hS hl
  obtain ⟨hx, hb, hr, hml, hown, hG, hlk, hF, hz, hnm⟩ := fx
  have hown : s.vm.findClass RX9 = some m.cls := hown
  have hl : lv_has ls 2 [(0, .ref (B 0)), (1, .int b)] := hl
  refine lv_aload_n hx hb dX9_out_0 rfl (lv_at hl 0 rfl) ?_
  refine lv_iload_n hx hb dX9_out_1 rfl (lv_at hl 1 rfl) ?_
  refine m_ci (m_runV (n := 1) (rest := []) ⟨hx, hb, hml, hown, hG⟩ (M_isBatch l X B n wm dy tl g hs rest false t b 1 (by decide)) kw_528 kw_530 kw_6 kw_20 kw_531 (by decide +kernel) (rl_ok (by omega) (by decide)) hF hz hS (q0 := 0) rfl rfl rfl hl.1 rfl (Nat.le_of_ble_eq_true rfl) dX9_out_2 ⟨Nat.zero_le _, Nat.zero_le _⟩) hS (fun r_1 w1 H locs hw1 hS => ?_)
  obtain ⟨rfl, rfl⟩ := hw1
  refine lv_if_ne (tgt := 11) hx hb dX9_out_5 (by decide) (fun c_2 => absurd (isB_no hn hb0) c_2) (fun c_2 => ?_)
  refine lv_bipush (v := -2) hx hb dX9_out_8 (by decide) ?_
  exact m_iret hx hb hr hlk hS (⟨rfl, rfl⟩) (Nat.le_refl 0) (Nat.le_refl 0) dX9_out_10
set_option maxHeartbeats 4000000 in
set_option maxRecDepth 100000 in
theorem M_sell_nob (l : Launch) (X : Cx) (B : Nat → Nat) (n : Nat) (wm dy tl : Int32) (g : Nat → Rc) (hs : Nat → Int32) (rest : va_W) (t : Tr) (b : Int32) (f : Nat) (hf : 2 ≤ f) (hn : n ≤ 40) (hb0 : b < 0 ∨ nI n ≤ b) : cI l yX9_sell cX9_sell 3 (some .int) (rl f) X [.ref (B 0), .int b] (wM X B n wm dy tl g hs rest false t) (fun v w => v = -2 ∧ w = wM X B n wm dy tl g hs rest false t) := by
  refine met_start (by decide) (Nat.le_of_ble_eq_true rfl) ?_
  intro p e s m below meth c ls fx hS hl
  obtain ⟨hx, hb, hr, hml, hown, hG, hlk, hF, hz, hnm⟩ := fx
  have hown : s.vm.findClass RX9 = some m.cls := hown
  have hl : lv_has ls 3 [(0, .ref (B 0)), (1, .int b)] := hl
  refine lv_aload_n hx hb dX9_sell_0 rfl (lv_at hl 0 rfl) ?_
  refine lv_iload_n hx hb dX9_sell_1 rfl (lv_at hl 1 rfl) ?_
  refine m_ci (m_runV (n := 1) (rest := []) ⟨hx, hb, hml, hown, hG⟩ (M_isBatch l X B n wm dy tl g hs rest false t b 1 (by decide)) kw_528 kw_530 kw_6 kw_20 kw_531 (by decide +kernel) (rl_ok (by omega) (by decide)) hF hz hS (q0 := 0) rfl rfl rfl hl.1 rfl (Nat.le_of_ble_eq_true rfl) dX9_sell_2 ⟨Nat.zero_le _, Nat.zero_le _⟩) hS (fun r_1 w1 H locs hw1 hS => ?_)
  obtain ⟨rfl, rfl⟩ := hw1
  refine lv_if_ne (tgt := 11) hx hb dX9_sell_5 (by decide) (fun c_2 => absurd (isB_no hn hb0) c_2) (fun c_2 => ?_)
  refine lv_bipush (v := -2) hx hb dX9_sell_8 (by decide) ?_
  exact m_iret hx hb hr hlk hS (⟨rfl, rfl⟩) (Nat.le_refl 0) (Nat.le_refl 0) dX9_sell_10
set_option maxHeartbeats 4000000 in
set_option maxRecDepth 100000 in
theorem M_told_nob (l : Launch) (X : Cx) (B : Nat → Nat) (n : Nat) (wm dy tl : Int32) (g : Nat → Rc) (hs : Nat → Int32) (rest : va_W) (t : Tr) (b : Int32) (x0 : Int32) (f : Nat) (hf : 2 ≤ f) (hn : n ≤ 40) (hb0 : b < 0 ∨ nI n ≤ b) : cI l yX9_told cX9_told 3 (some .int) (rl f) X [.ref (B 0), .int b, .int x0] (wM X B n wm dy tl g hs rest false t) (fun v w => v = -2 ∧ w = wM X B n wm dy tl g hs rest false t) := by
  refine met_start (by decide) (Nat.le_of_ble_eq_true rfl) ?_
  intro p e s m below meth c ls fx hS hl
  obtain ⟨hx, hb, hr, hml, hown, hG, hlk, hF, hz, hnm⟩ := fx
  have hown : s.vm.findClass RX9 = some m.cls := hown
  have hl : lv_has ls 3 [(0, .ref (B 0)), (1, .int b), (2, .int x0)] := hl
  refine lv_aload_n hx hb dX9_told_0 rfl (lv_at hl 0 rfl) ?_
  refine lv_iload_n hx hb dX9_told_1 rfl (lv_at hl 1 rfl) ?_
  refine m_ci (m_runV (n := 1) (rest := []) ⟨hx, hb, hml, hown, hG⟩ (M_isBatch l X B n wm dy tl g hs rest false t b 1 (by decide)) kw_528 kw_530 kw_6 kw_20 kw_531 (by decide +kernel) (rl_ok (by omega) (by decide)) hF hz hS (q0 := 0) rfl rfl rfl hl.1 rfl (Nat.le_of_ble_eq_true rfl) dX9_told_2 ⟨Nat.zero_le _, Nat.zero_le _⟩) hS (fun r_1 w1 H locs hw1 hS => ?_)
  obtain ⟨rfl, rfl⟩ := hw1
  refine lv_if_eq (tgt := 18) hx hb dX9_told_5 (by decide) (fun c_2 => ?_) (fun c_2 => absurd (isB_no hn hb0) c_2)
  refine lv_bipush (v := -2) hx hb dX9_told_18 (by decide) ?_
  exact m_iret hx hb hr hlk hS (⟨rfl, rfl⟩) (Nat.le_refl 0) (Nat.le_refl 0) dX9_told_20
set_option maxHeartbeats 4000000 in
set_option maxRecDepth 100000 in
theorem M_ask_bad (l : Launch) (X : Cx) (B : Nat → Nat) (n : Nat) (wm dy tl : Int32) (g : Nat → Rc) (hs : Nat → Int32) (rest : va_W) (t : Tr) (j f : Nat) (hn : n ≤ 40) (hkd : ∀ i, i < n → kd (g i) < 7) (hk0 : ∀ i, i < n → g i 0 = nI (kd (g i))) (hj : j < n) (wh w : Int32) (hf : 6 ≤ f) (h0 : qOk wh w = 0) : cI l yX9_ask cX9_ask 5 (some .int) (rl f) X [.ref (B 0), .int (nI j), .int wh, .int w] (wM X B n wm dy tl g hs rest false t) (fun v w' => v = -2 ∧ w' = wM X B n wm dy tl g hs rest false t) := by
  refine met_start (by decide) (Nat.le_of_ble_eq_true rfl) ?_
  intro p e s m below meth c ls fx hS hl
  obtain ⟨hx, hb, hr, hml, hown, hG, hlk, hF, hz, hnm⟩ := fx
  have hown : s.vm.findClass RX9 = some m.cls := hown
  have hl : lv_has ls 5 [(0, .ref (B 0)), (1, .int (nI j)), (2, .int wh), (3, .int w)] := hl
  have hj4 : j < 40 := by omega
  refine lv_aload_n hx hb dX9_ask_0 rfl (lv_at hl 0 rfl) ?_
  refine lv_iload_n hx hb dX9_ask_1 rfl (lv_at hl 1 rfl) ?_
  refine m_ci (m_runV (n := 1) (rest := []) ⟨hx, hb, hml, hown, hG⟩ (M_isBatch l X B n wm dy tl g hs rest false t (nI j) 1 (by decide)) kw_528 kw_530 kw_6 kw_20 kw_531 (by decide +kernel) (rl_ok (by omega) (by decide)) hF hz hS (q0 := 0) rfl rfl rfl hl.1 rfl (Nat.le_of_ble_eq_true rfl) dX9_ask_2 ⟨Nat.zero_le _, Nat.zero_le _⟩) hS (fun r_1 w1 H locs hw1 hS => ?_)
  obtain ⟨rfl, rfl⟩ := hw1
  refine lv_if_eq (tgt := 47) hx hb dX9_ask_5 (by decide) (fun c_2 => absurd c_2 (by rw [isB_yes hj hn]; decide)) (fun c_2 => ?_)
  refine lv_iload_n hx hb dX9_ask_8 rfl (lv_at hl 2 rfl) ?_
  refine lv_iconst (v := 0) hx hb dX9_ask_9 (by decide) ?_
  refine lv_iconst (v := 5) hx hb dX9_ask_10 (by decide) ?_
  refine m_ci (m_runS (n := 3) (rest := []) ⟨hx, hb, hml, hown, hG⟩ (c_in l X _ wh 0 5 0) kw_521 kw_522 kw_20 kw_523 (by decide +kernel) (rl_ok (by omega) (by decide)) hF hz hS rfl hl.1 rfl (Nat.le_of_ble_eq_true rfl) dX9_ask_11 ⟨Nat.zero_le _, Nat.zero_le _⟩) hS (fun r_3 w2 H locs hw2 hS => ?_)
  obtain ⟨rfl, rfl⟩ := hw2
  refine lv_if_eq (tgt := 47) hx hb dX9_ask_14 (by decide) (fun c_4 => ?_) (fun c_4 => ?_)
  · refine lv_bipush (v := -2) hx hb dX9_ask_47 (by decide) ?_
    exact m_iret hx hb hr hlk hS (⟨rfl, rfl⟩) (Nat.le_refl 0) (Nat.le_refl 0) dX9_ask_49
  · refine lv_iload_n hx hb dX9_ask_17 rfl (lv_at hl 2 rfl) ?_
    refine lv_if_ne (tgt := 31) hx hb dX9_ask_18 (by decide) (fun c_5 => ?_) (fun c_5 => ?_)
    · refine lv_iload_n hx hb dX9_ask_31 rfl (lv_at hl 2 rfl) ?_
      refine lv_iconst (v := 2) hx hb dX9_ask_32 (by decide) ?_
      refine lv_icmp_ne (tgt := 50) hx hb dX9_ask_33 (by decide) (fun c_6 => ?_) (fun c_6 => ?_)
      · exact absurd (by unfold qOk at h0; rw [if_neg c_5, if_neg c_6] at h0; exact h0) c_4
      · refine lv_iload_n hx hb dX9_ask_36 rfl (lv_at hl 3 rfl) ?_
        refine lv_iconst (v := 0) hx hb dX9_ask_37 (by decide) ?_
        refine lv_sipush (v := 400) hx hb dX9_ask_38 (by decide) ?_
        refine m_ci (m_runS (n := 3) (rest := []) ⟨hx, hb, hml, hown, hG⟩ (c_in l X _ w 0 400 0) kw_521 kw_522 kw_20 kw_523 (by decide +kernel) (rl_ok (by omega) (by decide)) hF hz hS rfl hl.1 rfl (Nat.le_of_ble_eq_true rfl) dX9_ask_41 ⟨Nat.zero_le _, Nat.zero_le _⟩) hS (fun r_7 w4 H locs hw4 hS => ?_)
        obtain ⟨rfl, rfl⟩ := hw4
        refine lv_if_ne (tgt := 50) hx hb dX9_ask_44 (by decide) (fun c_8 => absurd (by unfold qOk at h0; rw [if_neg c_5, if_pos c_6] at h0; exact h0) c_8) (fun c_8 => ?_)
        refine lv_bipush (v := -2) hx hb dX9_ask_47 (by decide) ?_
        exact m_iret hx hb hr hlk hS (⟨rfl, rfl⟩) (Nat.le_refl 0) (Nat.le_refl 0) dX9_ask_49
    · refine lv_iload_n hx hb dX9_ask_21 rfl (lv_at hl 3 rfl) ?_
      refine lv_iconst (v := 0) hx hb dX9_ask_22 (by decide) ?_
      refine lv_bipush (v := 60) hx hb dX9_ask_23 (by decide) ?_
      refine m_ci (m_runS (n := 3) (rest := []) ⟨hx, hb, hml, hown, hG⟩ (c_in l X _ w 0 60 0) kw_521 kw_522 kw_20 kw_523 (by decide +kernel) (rl_ok (by omega) (by decide)) hF hz hS rfl hl.1 rfl (Nat.le_of_ble_eq_true rfl) dX9_ask_25 ⟨Nat.zero_le _, Nat.zero_le _⟩) hS (fun r_6 w3 H locs hw3 hS => ?_)
      obtain ⟨rfl, rfl⟩ := hw3
      refine lv_if_eq (tgt := 47) hx hb dX9_ask_28 (by decide) (fun c_7 => ?_) (fun c_7 => absurd (by unfold qOk at h0; rw [if_pos c_5] at h0; exact h0) c_7)
      refine lv_bipush (v := -2) hx hb dX9_ask_47 (by decide) ?_
      exact m_iret hx hb hr hlk hS (⟨rfl, rfl⟩) (Nat.le_refl 0) (Nat.le_refl 0) dX9_ask_49
set_option maxHeartbeats 4000000 in
set_option maxRecDepth 100000 in
theorem M_ask (l : Launch) (X : Cx) (B : Nat → Nat) (n : Nat) (wm dy tl : Int32) (g : Nat → Rc) (hs : Nat → Int32) (rest : va_W) (t : Tr) (j f : Nat) (hn : n ≤ 40) (hkd : ∀ i, i < n → kd (g i) < 7) (hk0 : ∀ i, i < n → g i 0 = nI (kd (g i))) (hj : j < n) (q : Nat) (w : Int32) (hq : q < 6) (hf : 6 ≤ f) (h0 : ¬ qOk (nI q) w = 0) : cI l yX9_ask cX9_ask 5 (some .int) (rl f) X [.ref (B 0), .int (nI j), .int (nI q), .int w] (wM X B n wm dy tl g hs rest false t) (fun v w' => v = askV (g j) q w ∧ w' = wM X B n wm dy tl g hs rest false (te true (askT (g j) q) (0, t.2))) := by
  refine met_start (by decide) (Nat.le_of_ble_eq_true rfl) ?_
  intro p e s m below meth c ls fx hS hl
  obtain ⟨hx, hb, hr, hml, hown, hG, hlk, hF, hz, hnm⟩ := fx
  have hown : s.vm.findClass RX9 = some m.cls := hown
  have hl : lv_has ls 5 [(0, .ref (B 0)), (1, .int (nI j)), (2, .int (nI q)), (3, .int w)] := hl
  have hj4 : j < 40 := by omega
  refine lv_aload_n hx hb dX9_ask_0 rfl (lv_at hl 0 rfl) ?_
  refine lv_iload_n hx hb dX9_ask_1 rfl (lv_at hl 1 rfl) ?_
  refine m_ci (m_runV (n := 1) (rest := []) ⟨hx, hb, hml, hown, hG⟩ (M_isBatch l X B n wm dy tl g hs rest false t (nI j) 1 (by decide)) kw_528 kw_530 kw_6 kw_20 kw_531 (by decide +kernel) (rl_ok (by omega) (by decide)) hF hz hS (q0 := 0) rfl rfl rfl hl.1 rfl (Nat.le_of_ble_eq_true rfl) dX9_ask_2 ⟨Nat.zero_le _, Nat.zero_le _⟩) hS (fun r_1 w1 H locs hw1 hS => ?_)
  obtain ⟨rfl, rfl⟩ := hw1
  refine lv_if_eq (tgt := 47) hx hb dX9_ask_5 (by decide) (fun c_2 => absurd c_2 (by rw [isB_yes hj hn]; decide)) (fun c_2 => ?_)
  refine lv_iload_n hx hb dX9_ask_8 rfl (lv_at hl 2 rfl) ?_
  refine lv_iconst (v := 0) hx hb dX9_ask_9 (by decide) ?_
  refine lv_iconst (v := 5) hx hb dX9_ask_10 (by decide) ?_
  match q, hq with
  | 0, _ =>
    refine m_ci (m_runS (n := 3) (rest := []) ⟨hx, hb, hml, hown, hG⟩ (c_in l X _ (nI 0) 0 5 0) kw_521 kw_522 kw_20 kw_523 (by decide +kernel) (rl_ok (by omega) (by decide)) hF hz hS rfl hl.1 rfl (Nat.le_of_ble_eq_true rfl) dX9_ask_11 ⟨Nat.zero_le _, Nat.zero_le _⟩) hS (fun r_3 w2 H locs hw2 hS => ?_)
    obtain ⟨rfl, rfl⟩ := hw2
    refine lv_if_eq (tgt := 47) hx hb dX9_ask_14 (by decide) (fun c_4 => absurd c_4 (by decide)) (fun c_4 => ?_)
    refine lv_iload_n hx hb dX9_ask_17 rfl (lv_at hl 2 rfl) ?_
    refine lv_if_ne (tgt := 31) hx hb dX9_ask_18 (by decide) (fun c_5 => absurd (by decide) c_5) (fun c_5 => ?_)
    refine lv_iload_n hx hb dX9_ask_21 rfl (lv_at hl 3 rfl) ?_
    refine lv_iconst (v := 0) hx hb dX9_ask_22 (by decide) ?_
    refine lv_bipush (v := 60) hx hb dX9_ask_23 (by decide) ?_
    refine m_ci (m_runS (n := 3) (rest := []) ⟨hx, hb, hml, hown, hG⟩ (c_in l X _ w 0 60 0) kw_521 kw_522 kw_20 kw_523 (by decide +kernel) (rl_ok (by omega) (by decide)) hF hz hS rfl hl.1 rfl (Nat.le_of_ble_eq_true rfl) dX9_ask_25 ⟨Nat.zero_le _, Nat.zero_le _⟩) hS (fun r_6 w3 H locs hw3 hS => ?_)
    obtain ⟨rfl, rfl⟩ := hw3
    refine lv_if_eq (tgt := 47) hx hb dX9_ask_28 (by decide) (fun c_7 => absurd c_7 (h0)) (fun c_7 => ?_)
    refine lv_iload_n hx hb dX9_ask_31 rfl (lv_at hl 2 rfl) ?_
    refine lv_iconst (v := 2) hx hb dX9_ask_32 (by decide) ?_
    refine lv_icmp_ne (tgt := 50) hx hb dX9_ask_33 (by decide) (fun c_8 => ?_) (fun c_8 => absurd c_8 (by decide))
    refine lv_aload_n hx hb dX9_ask_50 rfl (lv_at hl 0 rfl) ?_
    refine lv_iconst (v := 0) hx hb dX9_ask_51 (by decide) ?_
    refine m_put hx hb hG hown hF hS (0) rfl rfl iG_9 tyX9_ok nmX9 13 (by decide) kw_484 (fun _ h9 => h9) rfl rfl rfl (Nat.le_of_ble_eq_true rfl) (wM X B n wm dy tl g hs rest false (0, t.2)) rfl dX9_ask_52 (fun H locs hS => ?_)
    refine lv_aload_n hx hb dX9_ask_55 rfl (lv_at hl 0 rfl) ?_
    refine lv_iconst (v := 1) hx hb dX9_ask_56 (by decide) ?_
    refine m_put hx hb hG hown hF hS (0) rfl rfl iG_9 tyX9_ok nmX9 14 (by decide) kw_485 (fun _ h9 => h9) rfl rfl rfl (Nat.le_of_ble_eq_true rfl) (wM X B n wm dy tl g hs rest true (0, t.2)) rfl dX9_ask_57 (fun H locs hS => ?_)
    refine lv_aload_n hx hb dX9_ask_60 rfl (lv_at hl 0 rfl) ?_
    refine lv_iload_n hx hb dX9_ask_61 rfl (lv_at hl 1 rfl) ?_
    refine lv_iload_n hx hb dX9_ask_62 rfl (lv_at hl 2 rfl) ?_
    refine lv_iload_n hx hb dX9_ask_63 rfl (lv_at hl 3 rfl) ?_
    refine m_ci (m_runV (n := 3) (rest := []) ⟨hx, hb, hml, hown, hG⟩ (M_answer l X B n wm dy tl g hs rest true (0, t.2) j 0 w 5 hj (by decide) (by decide) (fun _ => Nat.le_refl 10) hn hkd hk0) kw_532 kw_534 kw_7 kw_20 kw_535 (by decide +kernel) (rl_ok (by omega) (by decide)) hF hz hS (q0 := 0) rfl rfl rfl hl.1 rfl (Nat.le_of_ble_eq_true rfl) dX9_ask_64 ⟨Nat.zero_le _, Nat.zero_le _⟩) hS (fun r_9 w5 H locs hw5 hS => ?_)
    obtain ⟨rfl, rfl⟩ := hw5
    refine lv_istore (lv' := [(4, .int (askV (g j) 0 w)), (0, .ref (B 0)), (1, .int (nI j)), (2, .int (nI 0)), (3, .int w)]) hx hb dX9_ask_67 hl (by decide) rfl (fun ls hl => ?_)
    refine lv_aload_n hx hb dX9_ask_69 rfl (lv_at hl 1 rfl) ?_
    refine lv_iconst (v := 0) hx hb dX9_ask_70 (by decide) ?_
    refine m_put hx hb hG hown hF hS (0) rfl rfl iG_9 tyX9_ok nmX9 14 (by decide) kw_485 (fun _ h9 => h9) rfl rfl rfl (Nat.le_of_ble_eq_true rfl) (wM X B n wm dy tl g hs rest false (te true (askT (g j) 0) (0, t.2))) rfl dX9_ask_71 (fun H locs hS => ?_)
    refine lv_iload hx hb dX9_ask_74 (lv_at hl 0 rfl) ?_
    exact m_iret hx hb hr hlk hS (⟨rfl, rfl⟩) (Nat.le_refl 0) (Nat.le_refl 0) dX9_ask_76
  | 1, _ =>
    refine m_ci (m_runS (n := 3) (rest := []) ⟨hx, hb, hml, hown, hG⟩ (c_in l X _ (nI 1) 0 5 0) kw_521 kw_522 kw_20 kw_523 (by decide +kernel) (rl_ok (by omega) (by decide)) hF hz hS rfl hl.1 rfl (Nat.le_of_ble_eq_true rfl) dX9_ask_11 ⟨Nat.zero_le _, Nat.zero_le _⟩) hS (fun r_3 w2 H locs hw2 hS => ?_)
    obtain ⟨rfl, rfl⟩ := hw2
    refine lv_if_eq (tgt := 47) hx hb dX9_ask_14 (by decide) (fun c_4 => absurd c_4 (by decide)) (fun c_4 => ?_)
    refine lv_iload_n hx hb dX9_ask_17 rfl (lv_at hl 2 rfl) ?_
    refine lv_if_ne (tgt := 31) hx hb dX9_ask_18 (by decide) (fun c_5 => ?_) (fun c_5 => absurd c_5 (by decide))
    refine lv_iload_n hx hb dX9_ask_31 rfl (lv_at hl 2 rfl) ?_
    refine lv_iconst (v := 2) hx hb dX9_ask_32 (by decide) ?_
    refine lv_icmp_ne (tgt := 50) hx hb dX9_ask_33 (by decide) (fun c_6 => ?_) (fun c_6 => absurd c_6 (by decide))
    refine lv_aload_n hx hb dX9_ask_50 rfl (lv_at hl 0 rfl) ?_
    refine lv_iconst (v := 0) hx hb dX9_ask_51 (by decide) ?_
    refine m_put hx hb hG hown hF hS (0) rfl rfl iG_9 tyX9_ok nmX9 13 (by decide) kw_484 (fun _ h9 => h9) rfl rfl rfl (Nat.le_of_ble_eq_true rfl) (wM X B n wm dy tl g hs rest false (0, t.2)) rfl dX9_ask_52 (fun H locs hS => ?_)
    refine lv_aload_n hx hb dX9_ask_55 rfl (lv_at hl 0 rfl) ?_
    refine lv_iconst (v := 1) hx hb dX9_ask_56 (by decide) ?_
    refine m_put hx hb hG hown hF hS (0) rfl rfl iG_9 tyX9_ok nmX9 14 (by decide) kw_485 (fun _ h9 => h9) rfl rfl rfl (Nat.le_of_ble_eq_true rfl) (wM X B n wm dy tl g hs rest true (0, t.2)) rfl dX9_ask_57 (fun H locs hS => ?_)
    refine lv_aload_n hx hb dX9_ask_60 rfl (lv_at hl 0 rfl) ?_
    refine lv_iload_n hx hb dX9_ask_61 rfl (lv_at hl 1 rfl) ?_
    refine lv_iload_n hx hb dX9_ask_62 rfl (lv_at hl 2 rfl) ?_
    refine lv_iload_n hx hb dX9_ask_63 rfl (lv_at hl 3 rfl) ?_
    refine m_ci (m_runV (n := 3) (rest := []) ⟨hx, hb, hml, hown, hG⟩ (M_answer l X B n wm dy tl g hs rest true (0, t.2) j 1 w 5 hj (by decide) (by decide) (fun _ => Nat.le_refl 10) hn hkd hk0) kw_532 kw_534 kw_7 kw_20 kw_535 (by decide +kernel) (rl_ok (by omega) (by decide)) hF hz hS (q0 := 0) rfl rfl rfl hl.1 rfl (Nat.le_of_ble_eq_true rfl) dX9_ask_64 ⟨Nat.zero_le _, Nat.zero_le _⟩) hS (fun r_7 w5 H locs hw5 hS => ?_)
    obtain ⟨rfl, rfl⟩ := hw5
    refine lv_istore (lv' := [(4, .int (askV (g j) 1 w)), (0, .ref (B 0)), (1, .int (nI j)), (2, .int (nI 1)), (3, .int w)]) hx hb dX9_ask_67 hl (by decide) rfl (fun ls hl => ?_)
    refine lv_aload_n hx hb dX9_ask_69 rfl (lv_at hl 1 rfl) ?_
    refine lv_iconst (v := 0) hx hb dX9_ask_70 (by decide) ?_
    refine m_put hx hb hG hown hF hS (0) rfl rfl iG_9 tyX9_ok nmX9 14 (by decide) kw_485 (fun _ h9 => h9) rfl rfl rfl (Nat.le_of_ble_eq_true rfl) (wM X B n wm dy tl g hs rest false (te true (askT (g j) 1) (0, t.2))) rfl dX9_ask_71 (fun H locs hS => ?_)
    refine lv_iload hx hb dX9_ask_74 (lv_at hl 0 rfl) ?_
    exact m_iret hx hb hr hlk hS (⟨rfl, rfl⟩) (Nat.le_refl 0) (Nat.le_refl 0) dX9_ask_76
  | 2, _ =>
    refine m_ci (m_runS (n := 3) (rest := []) ⟨hx, hb, hml, hown, hG⟩ (c_in l X _ (nI 2) 0 5 0) kw_521 kw_522 kw_20 kw_523 (by decide +kernel) (rl_ok (by omega) (by decide)) hF hz hS rfl hl.1 rfl (Nat.le_of_ble_eq_true rfl) dX9_ask_11 ⟨Nat.zero_le _, Nat.zero_le _⟩) hS (fun r_3 w2 H locs hw2 hS => ?_)
    obtain ⟨rfl, rfl⟩ := hw2
    refine lv_if_eq (tgt := 47) hx hb dX9_ask_14 (by decide) (fun c_4 => absurd c_4 (by decide)) (fun c_4 => ?_)
    refine lv_iload_n hx hb dX9_ask_17 rfl (lv_at hl 2 rfl) ?_
    refine lv_if_ne (tgt := 31) hx hb dX9_ask_18 (by decide) (fun c_5 => ?_) (fun c_5 => absurd c_5 (by decide))
    refine lv_iload_n hx hb dX9_ask_31 rfl (lv_at hl 2 rfl) ?_
    refine lv_iconst (v := 2) hx hb dX9_ask_32 (by decide) ?_
    refine lv_icmp_ne (tgt := 50) hx hb dX9_ask_33 (by decide) (fun c_6 => absurd (by decide) c_6) (fun c_6 => ?_)
    refine lv_iload_n hx hb dX9_ask_36 rfl (lv_at hl 3 rfl) ?_
    refine lv_iconst (v := 0) hx hb dX9_ask_37 (by decide) ?_
    refine lv_sipush (v := 400) hx hb dX9_ask_38 (by decide) ?_
    refine m_ci (m_runS (n := 3) (rest := []) ⟨hx, hb, hml, hown, hG⟩ (c_in l X _ w 0 400 0) kw_521 kw_522 kw_20 kw_523 (by decide +kernel) (rl_ok (by omega) (by decide)) hF hz hS rfl hl.1 rfl (Nat.le_of_ble_eq_true rfl) dX9_ask_41 ⟨Nat.zero_le _, Nat.zero_le _⟩) hS (fun r_7 w4 H locs hw4 hS => ?_)
    obtain ⟨rfl, rfl⟩ := hw4
    refine lv_if_ne (tgt := 50) hx hb dX9_ask_44 (by decide) (fun c_8 => ?_) (fun c_8 => absurd c_8 (h0))
    refine lv_aload_n hx hb dX9_ask_50 rfl (lv_at hl 0 rfl) ?_
    refine lv_iconst (v := 0) hx hb dX9_ask_51 (by decide) ?_
    refine m_put hx hb hG hown hF hS (0) rfl rfl iG_9 tyX9_ok nmX9 13 (by decide) kw_484 (fun _ h9 => h9) rfl rfl rfl (Nat.le_of_ble_eq_true rfl) (wM X B n wm dy tl g hs rest false (0, t.2)) rfl dX9_ask_52 (fun H locs hS => ?_)
    refine lv_aload_n hx hb dX9_ask_55 rfl (lv_at hl 0 rfl) ?_
    refine lv_iconst (v := 1) hx hb dX9_ask_56 (by decide) ?_
    refine m_put hx hb hG hown hF hS (0) rfl rfl iG_9 tyX9_ok nmX9 14 (by decide) kw_485 (fun _ h9 => h9) rfl rfl rfl (Nat.le_of_ble_eq_true rfl) (wM X B n wm dy tl g hs rest true (0, t.2)) rfl dX9_ask_57 (fun H locs hS => ?_)
    refine lv_aload_n hx hb dX9_ask_60 rfl (lv_at hl 0 rfl) ?_
    refine lv_iload_n hx hb dX9_ask_61 rfl (lv_at hl 1 rfl) ?_
    refine lv_iload_n hx hb dX9_ask_62 rfl (lv_at hl 2 rfl) ?_
    refine lv_iload_n hx hb dX9_ask_63 rfl (lv_at hl 3 rfl) ?_
    refine m_ci (m_runV (n := 3) (rest := []) ⟨hx, hb, hml, hown, hG⟩ (M_answer l X B n wm dy tl g hs rest true (0, t.2) j 2 w 5 hj (by decide) (by decide) (fun _ => Nat.le_refl 10) hn hkd hk0) kw_532 kw_534 kw_7 kw_20 kw_535 (by decide +kernel) (rl_ok (by omega) (by decide)) hF hz hS (q0 := 0) rfl rfl rfl hl.1 rfl (Nat.le_of_ble_eq_true rfl) dX9_ask_64 ⟨Nat.zero_le _, Nat.zero_le _⟩) hS (fun r_9 w5 H locs hw5 hS => ?_)
    obtain ⟨rfl, rfl⟩ := hw5
    refine lv_istore (lv' := [(4, .int (askV (g j) 2 w)), (0, .ref (B 0)), (1, .int (nI j)), (2, .int (nI 2)), (3, .int w)]) hx hb dX9_ask_67 hl (by decide) rfl (fun ls hl => ?_)
    refine lv_aload_n hx hb dX9_ask_69 rfl (lv_at hl 1 rfl) ?_
    refine lv_iconst (v := 0) hx hb dX9_ask_70 (by decide) ?_
    refine m_put hx hb hG hown hF hS (0) rfl rfl iG_9 tyX9_ok nmX9 14 (by decide) kw_485 (fun _ h9 => h9) rfl rfl rfl (Nat.le_of_ble_eq_true rfl) (wM X B n wm dy tl g hs rest false (te true (askT (g j) 2) (0, t.2))) rfl dX9_ask_71 (fun H locs hS => ?_)
    refine lv_iload hx hb dX9_ask_74 (lv_at hl 0 rfl) ?_
    exact m_iret hx hb hr hlk hS (⟨rfl, rfl⟩) (Nat.le_refl 0) (Nat.le_refl 0) dX9_ask_76
  | 3, _ =>
    refine m_ci (m_runS (n := 3) (rest := []) ⟨hx, hb, hml, hown, hG⟩ (c_in l X _ (nI 3) 0 5 0) kw_521 kw_522 kw_20 kw_523 (by decide +kernel) (rl_ok (by omega) (by decide)) hF hz hS rfl hl.1 rfl (Nat.le_of_ble_eq_true rfl) dX9_ask_11 ⟨Nat.zero_le _, Nat.zero_le _⟩) hS (fun r_3 w2 H locs hw2 hS => ?_)
    obtain ⟨rfl, rfl⟩ := hw2
    refine lv_if_eq (tgt := 47) hx hb dX9_ask_14 (by decide) (fun c_4 => absurd c_4 (by decide)) (fun c_4 => ?_)
    refine lv_iload_n hx hb dX9_ask_17 rfl (lv_at hl 2 rfl) ?_
    refine lv_if_ne (tgt := 31) hx hb dX9_ask_18 (by decide) (fun c_5 => ?_) (fun c_5 => absurd c_5 (by decide))
    refine lv_iload_n hx hb dX9_ask_31 rfl (lv_at hl 2 rfl) ?_
    refine lv_iconst (v := 2) hx hb dX9_ask_32 (by decide) ?_
    refine lv_icmp_ne (tgt := 50) hx hb dX9_ask_33 (by decide) (fun c_6 => ?_) (fun c_6 => absurd c_6 (by decide))
    refine lv_aload_n hx hb dX9_ask_50 rfl (lv_at hl 0 rfl) ?_
    refine lv_iconst (v := 0) hx hb dX9_ask_51 (by decide) ?_
    refine m_put hx hb hG hown hF hS (0) rfl rfl iG_9 tyX9_ok nmX9 13 (by decide) kw_484 (fun _ h9 => h9) rfl rfl rfl (Nat.le_of_ble_eq_true rfl) (wM X B n wm dy tl g hs rest false (0, t.2)) rfl dX9_ask_52 (fun H locs hS => ?_)
    refine lv_aload_n hx hb dX9_ask_55 rfl (lv_at hl 0 rfl) ?_
    refine lv_iconst (v := 1) hx hb dX9_ask_56 (by decide) ?_
    refine m_put hx hb hG hown hF hS (0) rfl rfl iG_9 tyX9_ok nmX9 14 (by decide) kw_485 (fun _ h9 => h9) rfl rfl rfl (Nat.le_of_ble_eq_true rfl) (wM X B n wm dy tl g hs rest true (0, t.2)) rfl dX9_ask_57 (fun H locs hS => ?_)
    refine lv_aload_n hx hb dX9_ask_60 rfl (lv_at hl 0 rfl) ?_
    refine lv_iload_n hx hb dX9_ask_61 rfl (lv_at hl 1 rfl) ?_
    refine lv_iload_n hx hb dX9_ask_62 rfl (lv_at hl 2 rfl) ?_
    refine lv_iload_n hx hb dX9_ask_63 rfl (lv_at hl 3 rfl) ?_
    refine m_ci (m_runV (n := 3) (rest := []) ⟨hx, hb, hml, hown, hG⟩ (M_answer l X B n wm dy tl g hs rest true (0, t.2) j 3 w 5 hj (by decide) (by decide) (fun _ => Nat.le_refl 10) hn hkd hk0) kw_532 kw_534 kw_7 kw_20 kw_535 (by decide +kernel) (rl_ok (by omega) (by decide)) hF hz hS (q0 := 0) rfl rfl rfl hl.1 rfl (Nat.le_of_ble_eq_true rfl) dX9_ask_64 ⟨Nat.zero_le _, Nat.zero_le _⟩) hS (fun r_7 w5 H locs hw5 hS => ?_)
    obtain ⟨rfl, rfl⟩ := hw5
    refine lv_istore (lv' := [(4, .int (askV (g j) 3 w)), (0, .ref (B 0)), (1, .int (nI j)), (2, .int (nI 3)), (3, .int w)]) hx hb dX9_ask_67 hl (by decide) rfl (fun ls hl => ?_)
    refine lv_aload_n hx hb dX9_ask_69 rfl (lv_at hl 1 rfl) ?_
    refine lv_iconst (v := 0) hx hb dX9_ask_70 (by decide) ?_
    refine m_put hx hb hG hown hF hS (0) rfl rfl iG_9 tyX9_ok nmX9 14 (by decide) kw_485 (fun _ h9 => h9) rfl rfl rfl (Nat.le_of_ble_eq_true rfl) (wM X B n wm dy tl g hs rest false (te true (askT (g j) 3) (0, t.2))) rfl dX9_ask_71 (fun H locs hS => ?_)
    refine lv_iload hx hb dX9_ask_74 (lv_at hl 0 rfl) ?_
    exact m_iret hx hb hr hlk hS (⟨rfl, rfl⟩) (Nat.le_refl 0) (Nat.le_refl 0) dX9_ask_76
  | 4, _ =>
    refine m_ci (m_runS (n := 3) (rest := []) ⟨hx, hb, hml, hown, hG⟩ (c_in l X _ (nI 4) 0 5 0) kw_521 kw_522 kw_20 kw_523 (by decide +kernel) (rl_ok (by omega) (by decide)) hF hz hS rfl hl.1 rfl (Nat.le_of_ble_eq_true rfl) dX9_ask_11 ⟨Nat.zero_le _, Nat.zero_le _⟩) hS (fun r_3 w2 H locs hw2 hS => ?_)
    obtain ⟨rfl, rfl⟩ := hw2
    refine lv_if_eq (tgt := 47) hx hb dX9_ask_14 (by decide) (fun c_4 => absurd c_4 (by decide)) (fun c_4 => ?_)
    refine lv_iload_n hx hb dX9_ask_17 rfl (lv_at hl 2 rfl) ?_
    refine lv_if_ne (tgt := 31) hx hb dX9_ask_18 (by decide) (fun c_5 => ?_) (fun c_5 => absurd c_5 (by decide))
    refine lv_iload_n hx hb dX9_ask_31 rfl (lv_at hl 2 rfl) ?_
    refine lv_iconst (v := 2) hx hb dX9_ask_32 (by decide) ?_
    refine lv_icmp_ne (tgt := 50) hx hb dX9_ask_33 (by decide) (fun c_6 => ?_) (fun c_6 => absurd c_6 (by decide))
    refine lv_aload_n hx hb dX9_ask_50 rfl (lv_at hl 0 rfl) ?_
    refine lv_iconst (v := 0) hx hb dX9_ask_51 (by decide) ?_
    refine m_put hx hb hG hown hF hS (0) rfl rfl iG_9 tyX9_ok nmX9 13 (by decide) kw_484 (fun _ h9 => h9) rfl rfl rfl (Nat.le_of_ble_eq_true rfl) (wM X B n wm dy tl g hs rest false (0, t.2)) rfl dX9_ask_52 (fun H locs hS => ?_)
    refine lv_aload_n hx hb dX9_ask_55 rfl (lv_at hl 0 rfl) ?_
    refine lv_iconst (v := 1) hx hb dX9_ask_56 (by decide) ?_
    refine m_put hx hb hG hown hF hS (0) rfl rfl iG_9 tyX9_ok nmX9 14 (by decide) kw_485 (fun _ h9 => h9) rfl rfl rfl (Nat.le_of_ble_eq_true rfl) (wM X B n wm dy tl g hs rest true (0, t.2)) rfl dX9_ask_57 (fun H locs hS => ?_)
    refine lv_aload_n hx hb dX9_ask_60 rfl (lv_at hl 0 rfl) ?_
    refine lv_iload_n hx hb dX9_ask_61 rfl (lv_at hl 1 rfl) ?_
    refine lv_iload_n hx hb dX9_ask_62 rfl (lv_at hl 2 rfl) ?_
    refine lv_iload_n hx hb dX9_ask_63 rfl (lv_at hl 3 rfl) ?_
    refine m_ci (m_runV (n := 3) (rest := []) ⟨hx, hb, hml, hown, hG⟩ (M_answer l X B n wm dy tl g hs rest true (0, t.2) j 4 w 5 hj (by decide) (by decide) (fun _ => Nat.le_refl 10) hn hkd hk0) kw_532 kw_534 kw_7 kw_20 kw_535 (by decide +kernel) (rl_ok (by omega) (by decide)) hF hz hS (q0 := 0) rfl rfl rfl hl.1 rfl (Nat.le_of_ble_eq_true rfl) dX9_ask_64 ⟨Nat.zero_le _, Nat.zero_le _⟩) hS (fun r_7 w5 H locs hw5 hS => ?_)
    obtain ⟨rfl, rfl⟩ := hw5
    refine lv_istore (lv' := [(4, .int (askV (g j) 4 w)), (0, .ref (B 0)), (1, .int (nI j)), (2, .int (nI 4)), (3, .int w)]) hx hb dX9_ask_67 hl (by decide) rfl (fun ls hl => ?_)
    refine lv_aload_n hx hb dX9_ask_69 rfl (lv_at hl 1 rfl) ?_
    refine lv_iconst (v := 0) hx hb dX9_ask_70 (by decide) ?_
    refine m_put hx hb hG hown hF hS (0) rfl rfl iG_9 tyX9_ok nmX9 14 (by decide) kw_485 (fun _ h9 => h9) rfl rfl rfl (Nat.le_of_ble_eq_true rfl) (wM X B n wm dy tl g hs rest false (te true (askT (g j) 4) (0, t.2))) rfl dX9_ask_71 (fun H locs hS => ?_)
    refine lv_iload hx hb dX9_ask_74 (lv_at hl 0 rfl) ?_
    exact m_iret hx hb hr hlk hS (⟨rfl, rfl⟩) (Nat.le_refl 0) (Nat.le_refl 0) dX9_ask_76
  | 5, _ =>
    refine m_ci (m_runS (n := 3) (rest := []) ⟨hx, hb, hml, hown, hG⟩ (c_in l X _ (nI 5) 0 5 0) kw_521 kw_522 kw_20 kw_523 (by decide +kernel) (rl_ok (by omega) (by decide)) hF hz hS rfl hl.1 rfl (Nat.le_of_ble_eq_true rfl) dX9_ask_11 ⟨Nat.zero_le _, Nat.zero_le _⟩) hS (fun r_3 w2 H locs hw2 hS => ?_)
    obtain ⟨rfl, rfl⟩ := hw2
    refine lv_if_eq (tgt := 47) hx hb dX9_ask_14 (by decide) (fun c_4 => absurd c_4 (by decide)) (fun c_4 => ?_)
    refine lv_iload_n hx hb dX9_ask_17 rfl (lv_at hl 2 rfl) ?_
    refine lv_if_ne (tgt := 31) hx hb dX9_ask_18 (by decide) (fun c_5 => ?_) (fun c_5 => absurd c_5 (by decide))
    refine lv_iload_n hx hb dX9_ask_31 rfl (lv_at hl 2 rfl) ?_
    refine lv_iconst (v := 2) hx hb dX9_ask_32 (by decide) ?_
    refine lv_icmp_ne (tgt := 50) hx hb dX9_ask_33 (by decide) (fun c_6 => ?_) (fun c_6 => absurd c_6 (by decide))
    refine lv_aload_n hx hb dX9_ask_50 rfl (lv_at hl 0 rfl) ?_
    refine lv_iconst (v := 0) hx hb dX9_ask_51 (by decide) ?_
    refine m_put hx hb hG hown hF hS (0) rfl rfl iG_9 tyX9_ok nmX9 13 (by decide) kw_484 (fun _ h9 => h9) rfl rfl rfl (Nat.le_of_ble_eq_true rfl) (wM X B n wm dy tl g hs rest false (0, t.2)) rfl dX9_ask_52 (fun H locs hS => ?_)
    refine lv_aload_n hx hb dX9_ask_55 rfl (lv_at hl 0 rfl) ?_
    refine lv_iconst (v := 1) hx hb dX9_ask_56 (by decide) ?_
    refine m_put hx hb hG hown hF hS (0) rfl rfl iG_9 tyX9_ok nmX9 14 (by decide) kw_485 (fun _ h9 => h9) rfl rfl rfl (Nat.le_of_ble_eq_true rfl) (wM X B n wm dy tl g hs rest true (0, t.2)) rfl dX9_ask_57 (fun H locs hS => ?_)
    refine lv_aload_n hx hb dX9_ask_60 rfl (lv_at hl 0 rfl) ?_
    refine lv_iload_n hx hb dX9_ask_61 rfl (lv_at hl 1 rfl) ?_
    refine lv_iload_n hx hb dX9_ask_62 rfl (lv_at hl 2 rfl) ?_
    refine lv_iload_n hx hb dX9_ask_63 rfl (lv_at hl 3 rfl) ?_
    refine m_ci (m_runV (n := 3) (rest := []) ⟨hx, hb, hml, hown, hG⟩ (M_answer l X B n wm dy tl g hs rest true (0, t.2) j 5 w 5 hj (by decide) (by decide) (fun _ => Nat.le_refl 10) hn hkd hk0) kw_532 kw_534 kw_7 kw_20 kw_535 (by decide +kernel) (rl_ok (by omega) (by decide)) hF hz hS (q0 := 0) rfl rfl rfl hl.1 rfl (Nat.le_of_ble_eq_true rfl) dX9_ask_64 ⟨Nat.zero_le _, Nat.zero_le _⟩) hS (fun r_7 w5 H locs hw5 hS => ?_)
    obtain ⟨rfl, rfl⟩ := hw5
    refine lv_istore (lv' := [(4, .int (askV (g j) 5 w)), (0, .ref (B 0)), (1, .int (nI j)), (2, .int (nI 5)), (3, .int w)]) hx hb dX9_ask_67 hl (by decide) rfl (fun ls hl => ?_)
    refine lv_aload_n hx hb dX9_ask_69 rfl (lv_at hl 1 rfl) ?_
    refine lv_iconst (v := 0) hx hb dX9_ask_70 (by decide) ?_
    refine m_put hx hb hG hown hF hS (0) rfl rfl iG_9 tyX9_ok nmX9 14 (by decide) kw_485 (fun _ h9 => h9) rfl rfl rfl (Nat.le_of_ble_eq_true rfl) (wM X B n wm dy tl g hs rest false (te true (askT (g j) 5) (0, t.2))) rfl dX9_ask_71 (fun H locs hS => ?_)
    refine lv_iload hx hb dX9_ask_74 (lv_at hl 0 rfl) ?_
    exact m_iret hx hb hr hlk hS (⟨rfl, rfl⟩) (Nat.le_refl 0) (Nat.le_refl 0) dX9_ask_76
set_option maxHeartbeats 4000000 in
set_option maxRecDepth 100000 in
theorem M_trace_no (l : Launch) (X : Cx) (B : Nat → Nat) (n : Nat) (wm dy tl : Int32) (g : Nat → Rc) (hs : Nat → Int32) (rest : va_W) (t : Tr) (i : Int32) (f : Nat) (h0 : i < 0 ∨ nI t.1 ≤ i) (hf : 1 ≤ f) (ht : t.1 ≤ 10) : cI l yX9_trace cX9_trace 2 (some .int) (rl f) X [.ref (B 0), .int (i)] (wM X B n wm dy tl g hs rest false t) (fun v w => v = -1 ∧ w = wM X B n wm dy tl g hs rest false t) := by
  refine met_start (by decide) (Nat.le_of_ble_eq_true rfl) ?_
  intro p e s m below meth c ls fx hS hl
  obtain ⟨hx, hb, hr, hml, hown, hG, hlk, hF, hz, hnm⟩ := fx
  have hown : s.vm.findClass RX9 = some m.cls := hown
  have hl : lv_has ls 2 [(0, .ref (B 0)), (1, .int i)] := hl
  refine lv_iload_n hx hb dX9_trace_0 rfl (lv_at hl 1 rfl) ?_
  refine lv_iconst (v := 0) hx hb dX9_trace_1 (by decide) ?_
  refine lv_aload_n hx hb dX9_trace_2 rfl (lv_at hl 0 rfl) ?_
  refine m_get (v := .int (nI t.1)) hx hb hG hown hF hS (0) rfl rfl iG_9 13 (by decide) kw_484 (fun _ h9 => h9) rfl dX9_trace_3 ?_
  refine lv_iconst (v := 1) hx hb dX9_trace_6 (by decide) ?_
  refine lv_isub hx hb dX9_trace_7 ?_
  refine m_ci (m_runS (n := 3) (rest := []) ⟨hx, hb, hml, hown, hG⟩ (c_in l X _ i 0 ((nI t.1) - 1) 0) kw_521 kw_522 kw_20 kw_523 (by decide +kernel) (rl_ok (by omega) (by decide)) hF hz hS rfl hl.1 rfl (Nat.le_of_ble_eq_true rfl) dX9_trace_8 ⟨Nat.zero_le _, Nat.zero_le _⟩) hS (fun r_1 w1 H locs hw1 hS => ?_)
  obtain ⟨rfl, rfl⟩ := hw1
  refine lv_if_eq (tgt := 23) hx hb dX9_trace_11 (by decide) (fun c_2 => ?_) (fun c_2 => absurd (isB_no (by omega) h0) c_2)
  refine lv_iconst (v := -1) hx hb dX9_trace_23 (by decide) ?_
  exact m_iret hx hb hr hlk hS (⟨rfl, rfl⟩) (Nat.le_refl 0) (Nat.le_refl 0) dX9_trace_24
set_option maxHeartbeats 4000000 in
set_option maxRecDepth 100000 in
theorem M_trace (l : Launch) (X : Cx) (B : Nat → Nat) (n : Nat) (wm dy tl : Int32) (g : Nat → Rc) (hs : Nat → Int32) (rest : va_W) (t : Tr) (j f : Nat) (hj : j < t.1) (hf : 1 ≤ f) (ht : t.1 ≤ 10) : cI l yX9_trace cX9_trace 2 (some .int) (rl f) X [.ref (B 0), .int (nI j)] (wM X B n wm dy tl g hs rest false t) (fun v w => v = t.2 j ∧ w = wM X B n wm dy tl g hs rest false t) := by
  refine met_start (by decide) (Nat.le_of_ble_eq_true rfl) ?_
  intro p e s m below meth c ls fx hS hl
  obtain ⟨hx, hb, hr, hml, hown, hG, hlk, hF, hz, hnm⟩ := fx
  have hown : s.vm.findClass RX9 = some m.cls := hown
  have hl : lv_has ls 2 [(0, .ref (B 0)), (1, .int (nI j))] := hl
  refine lv_iload_n hx hb dX9_trace_0 rfl (lv_at hl 1 rfl) ?_
  refine lv_iconst (v := 0) hx hb dX9_trace_1 (by decide) ?_
  refine lv_aload_n hx hb dX9_trace_2 rfl (lv_at hl 0 rfl) ?_
  refine m_get (v := .int (nI t.1)) hx hb hG hown hF hS (0) rfl rfl iG_9 13 (by decide) kw_484 (fun _ h9 => h9) rfl dX9_trace_3 ?_
  refine lv_iconst (v := 1) hx hb dX9_trace_6 (by decide) ?_
  refine lv_isub hx hb dX9_trace_7 ?_
  refine m_ci (m_runS (n := 3) (rest := []) ⟨hx, hb, hml, hown, hG⟩ (c_in l X _ (nI j) 0 ((nI t.1) - 1) 0) kw_521 kw_522 kw_20 kw_523 (by decide +kernel) (rl_ok (by omega) (by decide)) hF hz hS rfl hl.1 rfl (Nat.le_of_ble_eq_true rfl) dX9_trace_8 ⟨Nat.zero_le _, Nat.zero_le _⟩) hS (fun r_1 w1 H locs hw1 hS => ?_)
  obtain ⟨rfl, rfl⟩ := hw1
  refine lv_if_eq (tgt := 23) hx hb dX9_trace_11 (by decide) (fun c_2 => absurd c_2 (by rw [isB_yes hj (by omega)]; decide)) (fun c_2 => ?_)
  refine lv_aload_n hx hb dX9_trace_14 rfl (lv_at hl 0 rfl) ?_
  refine m_get (v := .ref (B 9)) hx hb hG hown hF hS (0) rfl rfl iG_9 12 (by decide) kw_483 (fun _ h9 => h9) rfl dX9_trace_15 ?_
  refine lv_iload_n hx hb dX9_trace_18 rfl (lv_at hl 1 rfl) ?_
  refine m_iald hx hb hF hS (9) rfl (j) rfl (by omega) (by decide) dX9_trace_19 ?_
  refine lv_goto (tgt := 24) hx hb dX9_trace_20 (by decide) ?_
  exact m_iret hx hb hr hlk hS (⟨rfl, rfl⟩) (Nat.le_refl 0) (Nat.le_refl 0) dX9_trace_24
set_option maxHeartbeats 4000000 in
set_option maxRecDepth 100000 in
theorem M_room_bad (l : Launch) (X : Cx) (B : Nat → Nat) (n : Nat) (wm dy tl : Int32) (g : Nat → Rc) (hs : Nat → Int32) (rest : va_W) (t : Tr) (w : Int32) (f : Nat) (hf : 1 ≤ f) (h0 : inB w 0 60 = 0) : cI l yX9_room cX9_room 3 (some .int) (rl f) X [.ref (B 0), .int w] (wM X B n wm dy tl g hs rest false t) (fun v w' => v = -2 ∧ w' = wM X B n wm dy tl g hs rest false t) := by
  refine met_start (by decide) (Nat.le_of_ble_eq_true rfl) ?_
  intro p e s m below meth c ls fx hS hl
  obtain ⟨hx, hb, hr, hml, hown, hG, hlk, hF, hz, hnm⟩ := fx
  have hown : s.vm.findClass RX9 = some m.cls := hown
  have hl : lv_has ls 3 [(0, .ref (B 0)), (1, .int w)] := hl
  refine lv_iload_n hx hb dX9_room_0 rfl (lv_at hl 1 rfl) ?_
  refine lv_iconst (v := 0) hx hb dX9_room_1 (by decide) ?_
  refine lv_bipush (v := 60) hx hb dX9_room_2 (by decide) ?_
  refine m_ci (m_runS (n := 3) (rest := []) ⟨hx, hb, hml, hown, hG⟩ (c_in l X _ w 0 60 0) kw_521 kw_522 kw_20 kw_523 (by decide +kernel) (rl_ok (by omega) (by decide)) hF hz hS rfl hl.1 rfl (Nat.le_of_ble_eq_true rfl) dX9_room_4 ⟨Nat.zero_le _, Nat.zero_le _⟩) hS (fun r_1 w1 H locs hw1 hS => ?_)
  obtain ⟨rfl, rfl⟩ := hw1
  refine lv_if_ne (tgt := 13) hx hb dX9_room_7 (by decide) (fun c_2 => absurd (h0) c_2) (fun c_2 => ?_)
  refine lv_bipush (v := -2) hx hb dX9_room_10 (by decide) ?_
  exact m_iret hx hb hr hlk hS (⟨rfl, rfl⟩) (Nat.le_refl 0) (Nat.le_refl 0) dX9_room_12
set_option maxHeartbeats 4000000 in
set_option maxRecDepth 100000 in
theorem M_room (l : Launch) (X : Cx) (B : Nat → Nat) (n : Nat) (wm dy tl : Int32) (g : Nat → Rc) (hs : Nat → Int32) (rest : va_W) (t : Tr) (w : Int32) (f : Nat) (hf : 1 ≤ f) (h0 : ¬ inB w 0 60 = 0) : cI l yX9_room cX9_room 3 (some .int) (rl f) X [.ref (B 0), .int w] (wM X B n wm dy tl g hs rest false t) (fun v w' => v = wm ∧ w' = wM X B n w dy tl g hs rest false t) := by
  refine met_start (by decide) (Nat.le_of_ble_eq_true rfl) ?_
  intro p e s m below meth c ls fx hS hl
  obtain ⟨hx, hb, hr, hml, hown, hG, hlk, hF, hz, hnm⟩ := fx
  have hown : s.vm.findClass RX9 = some m.cls := hown
  have hl : lv_has ls 3 [(0, .ref (B 0)), (1, .int w)] := hl
  refine lv_iload_n hx hb dX9_room_0 rfl (lv_at hl 1 rfl) ?_
  refine lv_iconst (v := 0) hx hb dX9_room_1 (by decide) ?_
  refine lv_bipush (v := 60) hx hb dX9_room_2 (by decide) ?_
  refine m_ci (m_runS (n := 3) (rest := []) ⟨hx, hb, hml, hown, hG⟩ (c_in l X _ w 0 60 0) kw_521 kw_522 kw_20 kw_523 (by decide +kernel) (rl_ok (by omega) (by decide)) hF hz hS rfl hl.1 rfl (Nat.le_of_ble_eq_true rfl) dX9_room_4 ⟨Nat.zero_le _, Nat.zero_le _⟩) hS (fun r_1 w1 H locs hw1 hS => ?_)
  obtain ⟨rfl, rfl⟩ := hw1
  refine lv_if_ne (tgt := 13) hx hb dX9_room_7 (by decide) (fun c_2 => ?_) (fun c_2 => absurd c_2 (h0))
  refine lv_aload_n hx hb dX9_room_13 rfl (lv_at hl 0 rfl) ?_
  refine m_get (v := .int wm) hx hb hG hown hF hS (0) rfl rfl iG_9 8 (by decide) kw_479 (fun _ h9 => h9) rfl dX9_room_14 ?_
  refine lv_istore_n (lv' := [(2, .int wm), (0, .ref (B 0)), (1, .int w)]) hx hb dX9_room_17 rfl hl (by decide) rfl (fun ls hl => ?_)
  refine lv_aload_n hx hb dX9_room_18 rfl (lv_at hl 1 rfl) ?_
  refine lv_iload_n hx hb dX9_room_19 rfl (lv_at hl 2 rfl) ?_
  refine m_put hx hb hG hown hF hS (0) rfl rfl iG_9 tyX9_ok nmX9 8 (by decide) kw_479 (fun _ h9 => h9) rfl rfl rfl (Nat.le_of_ble_eq_true rfl) (wM X B n w dy tl g hs rest false t) rfl dX9_room_20 (fun H locs hS => ?_)
  refine lv_iload_n hx hb dX9_room_23 rfl (lv_at hl 0 rfl) ?_
  exact m_iret hx hb hr hlk hS (⟨rfl, rfl⟩) (Nat.le_refl 0) (Nat.le_refl 0) dX9_room_24
set_option maxHeartbeats 4000000 in
set_option maxRecDepth 100000 in
theorem M_heat_bad (l : Launch) (X : Cx) (B : Nat → Nat) (n : Nat) (wm dy tl : Int32) (g : Nat → Rc) (hs : Nat → Int32) (rest : va_W) (t : Tr) (o h : Int32) (f : Nat) (hf : 1 ≤ f) (h0 : inB o 0 2 = 0 ∨ inB h 0 400 = 0) : cI l yX9_heat cX9_heat 4 (some .int) (rl f) X [.ref (B 0), .int o, .int h] (wM X B n wm dy tl g hs rest false t) (fun v w' => v = -2 ∧ w' = wM X B n wm dy tl g hs rest false t) := by
  refine met_start (by decide) (Nat.le_of_ble_eq_true rfl) ?_
  intro p e s m below meth c ls fx hS hl
  obtain ⟨hx, hb, hr, hml, hown, hG, hlk, hF, hz, hnm⟩ := fx
  have hown : s.vm.findClass RX9 = some m.cls := hown
  have hl : lv_has ls 4 [(0, .ref (B 0)), (1, .int o), (2, .int h)] := hl
  refine lv_iload_n hx hb dX9_heat_0 rfl (lv_at hl 1 rfl) ?_
  refine lv_iconst (v := 0) hx hb dX9_heat_1 (by decide) ?_
  refine lv_iconst (v := 2) hx hb dX9_heat_2 (by decide) ?_
  refine m_ci (m_runS (n := 3) (rest := []) ⟨hx, hb, hml, hown, hG⟩ (c_in l X _ o 0 2 0) kw_521 kw_522 kw_20 kw_523 (by decide +kernel) (rl_ok (by omega) (by decide)) hF hz hS rfl hl.1 rfl (Nat.le_of_ble_eq_true rfl) dX9_heat_3 ⟨Nat.zero_le _, Nat.zero_le _⟩) hS (fun r_1 w1 H locs hw1 hS => ?_)
  obtain ⟨rfl, rfl⟩ := hw1
  refine lv_if_eq (tgt := 20) hx hb dX9_heat_6 (by decide) (fun c_2 => ?_) (fun c_2 => ?_)
  · refine lv_bipush (v := -2) hx hb dX9_heat_20 (by decide) ?_
    exact m_iret hx hb hr hlk hS (⟨rfl, rfl⟩) (Nat.le_refl 0) (Nat.le_refl 0) dX9_heat_22
  · refine lv_iload_n hx hb dX9_heat_9 rfl (lv_at hl 2 rfl) ?_
    refine lv_iconst (v := 0) hx hb dX9_heat_10 (by decide) ?_
    refine lv_sipush (v := 400) hx hb dX9_heat_11 (by decide) ?_
    refine m_ci (m_runS (n := 3) (rest := []) ⟨hx, hb, hml, hown, hG⟩ (c_in l X _ h 0 400 0) kw_521 kw_522 kw_20 kw_523 (by decide +kernel) (rl_ok (by omega) (by decide)) hF hz hS rfl hl.1 rfl (Nat.le_of_ble_eq_true rfl) dX9_heat_14 ⟨Nat.zero_le _, Nat.zero_le _⟩) hS (fun r_3 w2 H locs hw2 hS => ?_)
    obtain ⟨rfl, rfl⟩ := hw2
    refine lv_if_ne (tgt := 23) hx hb dX9_heat_17 (by decide) (fun c_4 => absurd (h0.resolve_left c_2) c_4) (fun c_4 => ?_)
    refine lv_bipush (v := -2) hx hb dX9_heat_20 (by decide) ?_
    exact m_iret hx hb hr hlk hS (⟨rfl, rfl⟩) (Nat.le_refl 0) (Nat.le_refl 0) dX9_heat_22
theorem ov2 {o : Nat} (h : o < 3) : inB (nI o) 0 2 = 1 := inB_yes (nI_pos (by omega)) (nI_nlt (a := 2) (b := o) (by omega) (by omega))
theorem ov2_no {o : Int32} (h : o < 0 ∨ nI 3 ≤ o) : inB o 0 2 = 0 := by
  rcases h with h | h
  · exact inB_no (Or.inl h)
  · refine inB_no (Or.inr ?_)
    have e1 : (nI 3).toInt = 3 := by decide
    have e2 : (2 : Int32).toInt = 2 := by decide
    rw [Int32.lt_iff_toInt_lt, e2]
    rw [Int32.le_iff_toInt_le, e1] at h
    omega
set_option maxHeartbeats 4000000 in
set_option maxRecDepth 100000 in
theorem M_heat (l : Launch) (X : Cx) (B : Nat → Nat) (n : Nat) (wm dy tl : Int32) (g : Nat → Rc) (hs : Nat → Int32) (rest : va_W) (t : Tr) (o : Nat) (h : Int32) (f : Nat) (hf : 1 ≤ f) (ho : o < 3) (h0 : ¬ inB h 0 400 = 0) : cI l yX9_heat cX9_heat 4 (some .int) (rl f) X [.ref (B 0), .int (nI o), .int h] (wM X B n wm dy tl g hs rest false t) (fun v w' => v = hs o ∧ w' = wM X B n wm dy tl g (upd hs o h) rest false t) := by
  refine met_start (by decide) (Nat.le_of_ble_eq_true rfl) ?_
  intro p e s m below meth c ls fx hS hl
  obtain ⟨hx, hb, hr, hml, hown, hG, hlk, hF, hz, hnm⟩ := fx
  have hown : s.vm.findClass RX9 = some m.cls := hown
  have hl : lv_has ls 4 [(0, .ref (B 0)), (1, .int (nI o)), (2, .int h)] := hl
  refine lv_iload_n hx hb dX9_heat_0 rfl (lv_at hl 1 rfl) ?_
  refine lv_iconst (v := 0) hx hb dX9_heat_1 (by decide) ?_
  refine lv_iconst (v := 2) hx hb dX9_heat_2 (by decide) ?_
  refine m_ci (m_runS (n := 3) (rest := []) ⟨hx, hb, hml, hown, hG⟩ (c_in l X _ (nI o) 0 2 0) kw_521 kw_522 kw_20 kw_523 (by decide +kernel) (rl_ok (by omega) (by decide)) hF hz hS rfl hl.1 rfl (Nat.le_of_ble_eq_true rfl) dX9_heat_3 ⟨Nat.zero_le _, Nat.zero_le _⟩) hS (fun r_1 w1 H locs hw1 hS => ?_)
  obtain ⟨rfl, rfl⟩ := hw1
  refine lv_if_eq (tgt := 20) hx hb dX9_heat_6 (by decide) (fun c_2 => absurd c_2 (by rw [ov2 ho]; decide)) (fun c_2 => ?_)
  refine lv_iload_n hx hb dX9_heat_9 rfl (lv_at hl 2 rfl) ?_
  refine lv_iconst (v := 0) hx hb dX9_heat_10 (by decide) ?_
  refine lv_sipush (v := 400) hx hb dX9_heat_11 (by decide) ?_
  refine m_ci (m_runS (n := 3) (rest := []) ⟨hx, hb, hml, hown, hG⟩ (c_in l X _ h 0 400 0) kw_521 kw_522 kw_20 kw_523 (by decide +kernel) (rl_ok (by omega) (by decide)) hF hz hS rfl hl.1 rfl (Nat.le_of_ble_eq_true rfl) dX9_heat_14 ⟨Nat.zero_le _, Nat.zero_le _⟩) hS (fun r_3 w2 H locs hw2 hS => ?_)
  obtain ⟨rfl, rfl⟩ := hw2
  refine lv_if_ne (tgt := 23) hx hb dX9_heat_17 (by decide) (fun c_4 => ?_) (fun c_4 => absurd c_4 (h0))
  refine lv_aload_n hx hb dX9_heat_23 rfl (lv_at hl 0 rfl) ?_
  refine m_get (v := .ref (B 8)) hx hb hG hown hF hS (0) rfl rfl iG_9 9 (by decide) kw_480 (fun _ h9 => h9) rfl dX9_heat_24 ?_
  refine lv_iload_n hx hb dX9_heat_27 rfl (lv_at hl 1 rfl) ?_
  refine m_iald hx hb hF hS (8) rfl (o) rfl (ho) (by decide) dX9_heat_28 ?_
  refine lv_istore_n (lv' := [(3, .int (hs o)), (0, .ref (B 0)), (1, .int (nI o)), (2, .int h)]) hx hb dX9_heat_29 rfl hl (by decide) rfl (fun ls hl => ?_)
  refine lv_aload_n hx hb dX9_heat_30 rfl (lv_at hl 1 rfl) ?_
  refine m_get (v := .ref (B 8)) hx hb hG hown hF hS (0) rfl rfl iG_9 9 (by decide) kw_480 (fun _ h9 => h9) rfl dX9_heat_31 ?_
  refine lv_iload_n hx hb dX9_heat_34 rfl (lv_at hl 2 rfl) ?_
  refine lv_iload_n hx hb dX9_heat_35 rfl (lv_at hl 3 rfl) ?_
  refine m_iast hx hb hF hS (8) rfl (o) rfl (ho) (by decide) (wM X B n wm dy tl g (upd hs o h) rest false t) rfl dX9_heat_36 (fun H locs hS => ?_)
  refine lv_iload_n hx hb dX9_heat_37 rfl (lv_at hl 0 rfl) ?_
  exact m_iret hx hb hr hlk hS (⟨rfl, rfl⟩) (Nat.le_refl 0) (Nat.le_refl 0) dX9_heat_38
set_option maxHeartbeats 4000000 in
set_option maxRecDepth 100000 in
theorem Mm_loop {p : Program} {l : Launch} {e : Env} {R : Room} {s : State} {m : MethodId} {args : Array Value} {below : List Frame} {meth : Method} {c : Code} {X : Cx} {B : Nat → Nat} {n : Nat} {wm dy tl : Int32} {g : Nat → Rc} {hs : Nat → Int32} {rest : va_W} {t : Tr} {H : Heap} {locs : List Loc} {o : Int32} {P : Int32 → va_W → Prop} (hn : n ≤ 40) (hx : p.tables.exec = Jvm.exec) (hb : c.code = cX9_massIn) (hr : meth.sig.returnType = some .int) (hml : c.maxLocals = 4) (hown : s.vm.findClass RX9 = some m.cls) (hG : ∀ w ∈ G, w.before args s = true) (hlk : meth.locks = false) (hF : mF X s) (hz : X.2.2.2 ≤ s.heap.size) (hS : mS X s (wM X B n wm dy tl g hs rest false t) H locs) (hP : P (masm g o n) (wM X B n wm dy tl g hs rest false t)) : ∀ (d j : Nat) (x3 x2 : Int32) (ls : Array Slot), x3 = nI j → j + d = n → x2 = masm g o j → lv_has ls 4 [(3, .int x3), (2, .int x2), (0, .ref (B 0)), (1, .int o)] → W p l e R s m args below meth c H locs 0 0 (MQ below (va_Qi P (fun w t => mH X w t.heap) (xA X)) args s 0 0 (xA X)) (F0 m 4 ls []) := by
  intro d
  induction d with
  | zero =>
    intro j x3 x2 ls ex hd e2 hl
    have hj : n = j := by omega
    subst hj
    refine lv_iload_n hx hb dX9_massIn_4 rfl (lv_at hl 0 rfl) ?_
    refine lv_aload_n hx hb dX9_massIn_5 rfl (lv_at hl 2 rfl) ?_
    refine m_get (v := .int (nI n)) hx hb hG hown hF hS (0) rfl rfl iG_9 0 (by decide) kw_471 (fun _ h9 => h9) rfl dX9_massIn_6 ?_
    refine lv_icmp_ge (tgt := 51) hx hb dX9_massIn_9 (by decide) (fun c_1 => ?_) (fun c_1 => absurd (by rw [ex]; exact Int32.le_refl _) c_1)
    refine lv_iload_n hx hb dX9_massIn_51 rfl (lv_at hl 1 rfl) ?_
    exact m_iret hx hb hr hlk hS (by rw [e2]; exact hP) (Nat.le_refl 0) (Nat.le_refl 0) dX9_massIn_52
  | succ d ih =>
    intro j x3 x2 ls ex hd e2 hl
    subst ex
    refine lv_iload_n hx hb dX9_massIn_4 rfl (lv_at hl 0 rfl) ?_
    refine lv_aload_n hx hb dX9_massIn_5 rfl (lv_at hl 2 rfl) ?_
    refine m_get (v := .int (nI n)) hx hb hG hown hF hS (0) rfl rfl iG_9 0 (by decide) kw_471 (fun _ h9 => h9) rfl dX9_massIn_6 ?_
    refine lv_icmp_ge (tgt := 51) hx hb dX9_massIn_9 (by decide) (fun c_52 => absurd c_52 (nI_ge (by omega) (by omega))) (fun c_52 => ?_)
    refine lv_iload_n hx hb dX9_massIn_12 rfl (lv_at hl 1 rfl) ?_
    refine lv_aload_n hx hb dX9_massIn_13 rfl (lv_at hl 2 rfl) ?_
    refine m_get (v := .ref (B 3)) hx hb hG hown hF hS (0) rfl rfl iG_9 3 (by decide) kw_474 (fun _ h9 => h9) rfl dX9_massIn_14 ?_
    refine lv_iload_n hx hb dX9_massIn_17 rfl (lv_at hl 0 rfl) ?_
    refine m_ialdv (v := g j 3) hx hb hF hS (3) rfl (j) rfl (by omega) (by decide) rfl dX9_massIn_18 ?_
    refine lv_iconst (v := 1) hx hb dX9_massIn_19 (by decide) ?_
    refine lv_icmp_ne (tgt := 42) hx hb dX9_massIn_20 (by decide) (fun c_53 => ?_) (fun c_53 => ?_)
    · refine lv_iconst (v := 0) hx hb dX9_massIn_42 (by decide) ?_
      refine lv_iadd hx hb dX9_massIn_43 ?_
      refine lv_topi (fun x_54 ex_54 => ?_)
      refine lv_istore_n (lv' := [(2, .int x_54), (3, .int (nI j)), (0, .ref (B 0)), (1, .int o)]) hx hb dX9_massIn_44 rfl hl (by decide) rfl (fun ls hl => ?_)
      obtain ⟨x_55, ex_55⟩ : ∃ y : Int32, y = (nI j) + 1 := ⟨_, rfl⟩
      refine lv_iinc (v := x_55) (lv' := [(3, .int x_55), (2, .int x_54), (0, .ref (B 0)), (1, .int o)]) hx hb dX9_massIn_45 hl (k := 1) rfl (by rw [ex_55]; rfl) (by decide) rfl (fun ls hl => ?_)
      refine lv_goto (tgt := 4) hx hb dX9_massIn_48 (by decide) ?_
      exact ih (j + 1) x_55 x_54 ls (by rw [ex_55]; exact nI_1 j) (by omega) (by rw [ex_54, masm, if_neg c_53, e2]; exact Int32.add_zero _) (lv_sub hl [0, 1, 2, 3] rfl)
    · refine lv_aload_n hx hb dX9_massIn_23 rfl (lv_at hl 2 rfl) ?_
      refine m_get (v := .ref (B 6)) hx hb hG hown hF hS (0) rfl rfl iG_9 6 (by decide) kw_477 (fun _ h9 => h9) rfl dX9_massIn_24 ?_
      refine lv_iload_n hx hb dX9_massIn_27 rfl (lv_at hl 0 rfl) ?_
      refine m_ialdv (v := g j 6) hx hb hF hS (6) rfl (j) rfl (by omega) (by decide) rfl dX9_massIn_28 ?_
      refine lv_iload_n hx hb dX9_massIn_29 rfl (lv_at hl 3 rfl) ?_
      refine lv_icmp_ne (tgt := 42) hx hb dX9_massIn_30 (by decide) (fun c_54 => ?_) (fun c_54 => ?_)
      · refine lv_iconst (v := 0) hx hb dX9_massIn_42 (by decide) ?_
        refine lv_iadd hx hb dX9_massIn_43 ?_
        refine lv_topi (fun x_55 ex_55 => ?_)
        refine lv_istore_n (lv' := [(2, .int x_55), (3, .int (nI j)), (0, .ref (B 0)), (1, .int o)]) hx hb dX9_massIn_44 rfl hl (by decide) rfl (fun ls hl => ?_)
        obtain ⟨x_56, ex_56⟩ : ∃ y : Int32, y = (nI j) + 1 := ⟨_, rfl⟩
        refine lv_iinc (v := x_56) (lv' := [(3, .int x_56), (2, .int x_55), (0, .ref (B 0)), (1, .int o)]) hx hb dX9_massIn_45 hl (k := 1) rfl (by rw [ex_56]; rfl) (by decide) rfl (fun ls hl => ?_)
        refine lv_goto (tgt := 4) hx hb dX9_massIn_48 (by decide) ?_
        exact ih (j + 1) x_56 x_55 ls (by rw [ex_56]; exact nI_1 j) (by omega) (by rw [ex_55, masm, if_pos c_53, if_neg c_54, e2]; exact Int32.add_zero _) (lv_sub hl [0, 1, 2, 3] rfl)
      · refine lv_aload_n hx hb dX9_massIn_33 rfl (lv_at hl 2 rfl) ?_
        refine m_get (v := .ref (B 2)) hx hb hG hown hF hS (0) rfl rfl iG_9 2 (by decide) kw_473 (fun _ h9 => h9) rfl dX9_massIn_34 ?_
        refine lv_iload_n hx hb dX9_massIn_37 rfl (lv_at hl 0 rfl) ?_
        refine m_ialdv (v := g j 1) hx hb hF hS (2) rfl (j) rfl (by omega) (by decide) rfl dX9_massIn_38 ?_
        refine lv_goto (tgt := 43) hx hb dX9_massIn_39 (by decide) ?_
        refine lv_iadd hx hb dX9_massIn_43 ?_
        refine lv_topi (fun x_55 ex_55 => ?_)
        refine lv_istore_n (lv' := [(2, .int x_55), (3, .int (nI j)), (0, .ref (B 0)), (1, .int o)]) hx hb dX9_massIn_44 rfl hl (by decide) rfl (fun ls hl => ?_)
        obtain ⟨x_56, ex_56⟩ : ∃ y : Int32, y = (nI j) + 1 := ⟨_, rfl⟩
        refine lv_iinc (v := x_56) (lv' := [(3, .int x_56), (2, .int x_55), (0, .ref (B 0)), (1, .int o)]) hx hb dX9_massIn_45 hl (k := 1) rfl (by rw [ex_56]; rfl) (by decide) rfl (fun ls hl => ?_)
        refine lv_goto (tgt := 4) hx hb dX9_massIn_48 (by decide) ?_
        exact ih (j + 1) x_56 x_55 ls (by rw [ex_56]; exact nI_1 j) (by omega) (by rw [ex_55, masm, if_pos c_53, if_pos c_54, e2]) (lv_sub hl [0, 1, 2, 3] rfl)
set_option maxHeartbeats 4000000 in
set_option maxRecDepth 100000 in
theorem M_massIn (l : Launch) (X : Cx) (B : Nat → Nat) (n : Nat) (wm dy tl : Int32) (g : Nat → Rc) (hs : Nat → Int32) (rest : va_W) (t : Tr) (o : Int32) (f : Nat) (hn : n ≤ 40) : cI l yX9_massIn cX9_massIn 4 (some .int) (rl f) X [.ref (B 0), .int o] (wM X B n wm dy tl g hs rest false t) (fun v w => v = masm g o n ∧ w = wM X B n wm dy tl g hs rest false t) := by
  refine met_start (by decide) (Nat.le_of_ble_eq_true rfl) ?_
  intro p e s m below meth c ls fx hS hl
  obtain ⟨hx, hb, hr, hml, hown, hG, hlk, hF, hz, hnm⟩ := fx
  have hown : s.vm.findClass RX9 = some m.cls := hown
  have hl : lv_has ls 4 [(0, .ref (B 0)), (1, .int o)] := hl
  refine lv_iconst (v := 0) hx hb dX9_massIn_0 (by decide) ?_
  refine lv_istore_n (lv' := [(2, .int 0), (0, .ref (B 0)), (1, .int o)]) hx hb dX9_massIn_1 rfl hl (by decide) rfl (fun ls hl => ?_)
  refine lv_iconst (v := 0) hx hb dX9_massIn_2 (by decide) ?_
  refine lv_istore_n (lv' := [(3, .int 0), (2, .int 0), (0, .ref (B 0)), (1, .int o)]) hx hb dX9_massIn_3 rfl hl (by decide) rfl (fun ls hl => ?_)
  exact Mm_loop hn hx hb hr hml hown hG hlk hF hz hS ⟨rfl, rfl⟩ n 0 0 0 ls nI_0.symm (by omega) rfl (lv_sub hl [0, 1, 2, 3] rfl)
set_option maxHeartbeats 4000000 in
set_option maxRecDepth 100000 in
theorem Mc_loop {p : Program} {l : Launch} {e : Env} {R : Room} {s : State} {m : MethodId} {args : Array Value} {below : List Frame} {meth : Method} {c : Code} {X : Cx} {B : Nat → Nat} {n : Nat} {wm dy tl : Int32} {g : Nat → Rc} {hs : Nat → Int32} {rest : va_W} {t : Tr} {H : Heap} {locs : List Loc} {k : Nat} {P : Int32 → va_W → Prop} (hk : k < 8) (hn : n ≤ 40) (hx : p.tables.exec = Jvm.exec) (hb : c.code = cX9_count) (hr : meth.sig.returnType = some .int) (hml : c.maxLocals = 4) (hown : s.vm.findClass RX9 = some m.cls) (hG : ∀ w ∈ G, w.before args s = true) (hlk : meth.locks = false) (hF : mF X s) (hz : X.2.2.2 ≤ s.heap.size) (hS : mS X s (wM X B n wm dy tl g hs rest false t) H locs) (hP : P (countV n g dy tl k) (wM X B n wm dy tl g hs rest false t)) : ∀ (d j : Nat) (x3 x2 : Int32) (ls : Array Slot), x3 = nI j → j + d = n → x2 = cnt g (nI k - 1) j → lv_has ls 4 [(3, .int x3), (2, .int x2), (0, .ref (B 0)), (1, .int (nI k))] → W p l e R s m args below meth c H locs 0 0 (MQ below (va_Qi P (fun w t => mH X w t.heap) (xA X)) args s 0 0 (xA X)) (F0 m 17 ls []) := by
  intro d
  induction d with
  | zero =>
    intro j x3 x2 ls ex hd e2 hl
    have hj : n = j := by omega
    subst hj
    refine lv_iload_n hx hb dX9_count_17 rfl (lv_at hl 0 rfl) ?_
    refine lv_aload_n hx hb dX9_count_18 rfl (lv_at hl 2 rfl) ?_
    refine m_get (v := .int (nI n)) hx hb hG hown hF hS (0) rfl rfl iG_9 0 (by decide) kw_471 (fun _ h9 => h9) rfl dX9_count_19 ?_
    refine lv_icmp_ge (tgt := 51) hx hb dX9_count_22 (by decide) (fun c_1 => ?_) (fun c_1 => absurd (by rw [ex]; exact Int32.le_refl _) c_1)
    subst e2
    match k, hk with
    | 0, _ =>
      refine lv_iload_n hx hb dX9_count_51 rfl (lv_at hl 3 rfl) ?_
      refine lv_if_ne (tgt := 62) hx hb dX9_count_52 (by decide) (fun c_2 => absurd (by decide) c_2) (fun c_2 => ?_)
      refine lv_aload_n hx hb dX9_count_55 rfl (lv_at hl 2 rfl) ?_
      refine m_get (v := .int (nI n)) hx hb hG hown hF hS (0) rfl rfl iG_9 0 (by decide) kw_471 (fun _ h9 => h9) rfl dX9_count_56 ?_
      refine lv_goto (tgt := 89) hx hb dX9_count_59 (by decide) ?_
      exact m_iret hx hb hr hlk hS (hP) (Nat.le_refl 0) (Nat.le_refl 0) dX9_count_89
    | 1, _ =>
      refine lv_iload_n hx hb dX9_count_51 rfl (lv_at hl 3 rfl) ?_
      refine lv_if_ne (tgt := 62) hx hb dX9_count_52 (by decide) (fun c_12 => ?_) (fun c_12 => absurd c_12 (by decide))
      refine lv_iload_n hx hb dX9_count_62 rfl (lv_at hl 3 rfl) ?_
      refine lv_bipush (v := 6) hx hb dX9_count_63 (by decide) ?_
      refine lv_icmp_ne (tgt := 75) hx hb dX9_count_65 (by decide) (fun c_13 => ?_) (fun c_13 => absurd c_13 (by decide))
      refine lv_iload_n hx hb dX9_count_75 rfl (lv_at hl 3 rfl) ?_
      refine lv_bipush (v := 7) hx hb dX9_count_76 (by decide) ?_
      refine lv_icmp_ne (tgt := 88) hx hb dX9_count_78 (by decide) (fun c_14 => ?_) (fun c_14 => absurd c_14 (by decide))
      refine lv_iload_n hx hb dX9_count_88 rfl (lv_at hl 1 rfl) ?_
      exact m_iret hx hb hr hlk hS (hP) (Nat.le_refl 0) (Nat.le_refl 0) dX9_count_89
    | 2, _ =>
      refine lv_iload_n hx hb dX9_count_51 rfl (lv_at hl 3 rfl) ?_
      refine lv_if_ne (tgt := 62) hx hb dX9_count_52 (by decide) (fun c_22 => ?_) (fun c_22 => absurd c_22 (by decide))
      refine lv_iload_n hx hb dX9_count_62 rfl (lv_at hl 3 rfl) ?_
      refine lv_bipush (v := 6) hx hb dX9_count_63 (by decide) ?_
      refine lv_icmp_ne (tgt := 75) hx hb dX9_count_65 (by decide) (fun c_23 => ?_) (fun c_23 => absurd c_23 (by decide))
      refine lv_iload_n hx hb dX9_count_75 rfl (lv_at hl 3 rfl) ?_
      refine lv_bipush (v := 7) hx hb dX9_count_76 (by decide) ?_
      refine lv_icmp_ne (tgt := 88) hx hb dX9_count_78 (by decide) (fun c_24 => ?_) (fun c_24 => absurd c_24 (by decide))
      refine lv_iload_n hx hb dX9_count_88 rfl (lv_at hl 1 rfl) ?_
      exact m_iret hx hb hr hlk hS (hP) (Nat.le_refl 0) (Nat.le_refl 0) dX9_count_89
    | 3, _ =>
      refine lv_iload_n hx hb dX9_count_51 rfl (lv_at hl 3 rfl) ?_
      refine lv_if_ne (tgt := 62) hx hb dX9_count_52 (by decide) (fun c_32 => ?_) (fun c_32 => absurd c_32 (by decide))
      refine lv_iload_n hx hb dX9_count_62 rfl (lv_at hl 3 rfl) ?_
      refine lv_bipush (v := 6) hx hb dX9_count_63 (by decide) ?_
      refine lv_icmp_ne (tgt := 75) hx hb dX9_count_65 (by decide) (fun c_33 => ?_) (fun c_33 => absurd c_33 (by decide))
      refine lv_iload_n hx hb dX9_count_75 rfl (lv_at hl 3 rfl) ?_
      refine lv_bipush (v := 7) hx hb dX9_count_76 (by decide) ?_
      refine lv_icmp_ne (tgt := 88) hx hb dX9_count_78 (by decide) (fun c_34 => ?_) (fun c_34 => absurd c_34 (by decide))
      refine lv_iload_n hx hb dX9_count_88 rfl (lv_at hl 1 rfl) ?_
      exact m_iret hx hb hr hlk hS (hP) (Nat.le_refl 0) (Nat.le_refl 0) dX9_count_89
    | 4, _ =>
      refine lv_iload_n hx hb dX9_count_51 rfl (lv_at hl 3 rfl) ?_
      refine lv_if_ne (tgt := 62) hx hb dX9_count_52 (by decide) (fun c_42 => ?_) (fun c_42 => absurd c_42 (by decide))
      refine lv_iload_n hx hb dX9_count_62 rfl (lv_at hl 3 rfl) ?_
      refine lv_bipush (v := 6) hx hb dX9_count_63 (by decide) ?_
      refine lv_icmp_ne (tgt := 75) hx hb dX9_count_65 (by decide) (fun c_43 => ?_) (fun c_43 => absurd c_43 (by decide))
      refine lv_iload_n hx hb dX9_count_75 rfl (lv_at hl 3 rfl) ?_
      refine lv_bipush (v := 7) hx hb dX9_count_76 (by decide) ?_
      refine lv_icmp_ne (tgt := 88) hx hb dX9_count_78 (by decide) (fun c_44 => ?_) (fun c_44 => absurd c_44 (by decide))
      refine lv_iload_n hx hb dX9_count_88 rfl (lv_at hl 1 rfl) ?_
      exact m_iret hx hb hr hlk hS (hP) (Nat.le_refl 0) (Nat.le_refl 0) dX9_count_89
    | 5, _ =>
      refine lv_iload_n hx hb dX9_count_51 rfl (lv_at hl 3 rfl) ?_
      refine lv_if_ne (tgt := 62) hx hb dX9_count_52 (by decide) (fun c_52 => ?_) (fun c_52 => absurd c_52 (by decide))
      refine lv_iload_n hx hb dX9_count_62 rfl (lv_at hl 3 rfl) ?_
      refine lv_bipush (v := 6) hx hb dX9_count_63 (by decide) ?_
      refine lv_icmp_ne (tgt := 75) hx hb dX9_count_65 (by decide) (fun c_53 => ?_) (fun c_53 => absurd c_53 (by decide))
      refine lv_iload_n hx hb dX9_count_75 rfl (lv_at hl 3 rfl) ?_
      refine lv_bipush (v := 7) hx hb dX9_count_76 (by decide) ?_
      refine lv_icmp_ne (tgt := 88) hx hb dX9_count_78 (by decide) (fun c_54 => ?_) (fun c_54 => absurd c_54 (by decide))
      refine lv_iload_n hx hb dX9_count_88 rfl (lv_at hl 1 rfl) ?_
      exact m_iret hx hb hr hlk hS (hP) (Nat.le_refl 0) (Nat.le_refl 0) dX9_count_89
    | 6, _ =>
      refine lv_iload_n hx hb dX9_count_51 rfl (lv_at hl 3 rfl) ?_
      refine lv_if_ne (tgt := 62) hx hb dX9_count_52 (by decide) (fun c_62 => ?_) (fun c_62 => absurd c_62 (by decide))
      refine lv_iload_n hx hb dX9_count_62 rfl (lv_at hl 3 rfl) ?_
      refine lv_bipush (v := 6) hx hb dX9_count_63 (by decide) ?_
      refine lv_icmp_ne (tgt := 75) hx hb dX9_count_65 (by decide) (fun c_63 => absurd (by decide) c_63) (fun c_63 => ?_)
      refine lv_aload_n hx hb dX9_count_68 rfl (lv_at hl 2 rfl) ?_
      refine m_get (v := .int dy) hx hb hG hown hF hS (0) rfl rfl iG_9 10 (by decide) kw_481 (fun _ h9 => h9) rfl dX9_count_69 ?_
      refine lv_goto (tgt := 89) hx hb dX9_count_72 (by decide) ?_
      exact m_iret hx hb hr hlk hS (hP) (Nat.le_refl 0) (Nat.le_refl 0) dX9_count_89
    | 7, _ =>
      refine lv_iload_n hx hb dX9_count_51 rfl (lv_at hl 3 rfl) ?_
      refine lv_if_ne (tgt := 62) hx hb dX9_count_52 (by decide) (fun c_72 => ?_) (fun c_72 => absurd c_72 (by decide))
      refine lv_iload_n hx hb dX9_count_62 rfl (lv_at hl 3 rfl) ?_
      refine lv_bipush (v := 6) hx hb dX9_count_63 (by decide) ?_
      refine lv_icmp_ne (tgt := 75) hx hb dX9_count_65 (by decide) (fun c_73 => ?_) (fun c_73 => absurd c_73 (by decide))
      refine lv_iload_n hx hb dX9_count_75 rfl (lv_at hl 3 rfl) ?_
      refine lv_bipush (v := 7) hx hb dX9_count_76 (by decide) ?_
      refine lv_icmp_ne (tgt := 88) hx hb dX9_count_78 (by decide) (fun c_74 => absurd (by decide) c_74) (fun c_74 => ?_)
      refine lv_aload_n hx hb dX9_count_81 rfl (lv_at hl 2 rfl) ?_
      refine m_get (v := .int tl) hx hb hG hown hF hS (0) rfl rfl iG_9 11 (by decide) kw_482 (fun _ h9 => h9) rfl dX9_count_82 ?_
      refine lv_goto (tgt := 89) hx hb dX9_count_85 (by decide) ?_
      exact m_iret hx hb hr hlk hS (hP) (Nat.le_refl 0) (Nat.le_refl 0) dX9_count_89
  | succ d ih =>
    intro j x3 x2 ls ex hd e2 hl
    subst ex
    refine lv_iload_n hx hb dX9_count_17 rfl (lv_at hl 0 rfl) ?_
    refine lv_aload_n hx hb dX9_count_18 rfl (lv_at hl 2 rfl) ?_
    refine m_get (v := .int (nI n)) hx hb hG hown hF hS (0) rfl rfl iG_9 0 (by decide) kw_471 (fun _ h9 => h9) rfl dX9_count_19 ?_
    refine lv_icmp_ge (tgt := 51) hx hb dX9_count_22 (by decide) (fun c_52 => absurd c_52 (nI_ge (by omega) (by omega))) (fun c_52 => ?_)
    refine lv_iload_n hx hb dX9_count_25 rfl (lv_at hl 1 rfl) ?_
    refine lv_aload_n hx hb dX9_count_26 rfl (lv_at hl 2 rfl) ?_
    refine m_get (v := .ref (B 3)) hx hb hG hown hF hS (0) rfl rfl iG_9 3 (by decide) kw_474 (fun _ h9 => h9) rfl dX9_count_27 ?_
    refine lv_iload_n hx hb dX9_count_30 rfl (lv_at hl 0 rfl) ?_
    refine m_ialdv (v := g j 3) hx hb hF hS (3) rfl (j) rfl (by omega) (by decide) rfl dX9_count_31 ?_
    refine lv_iload_n hx hb dX9_count_32 rfl (lv_at hl 3 rfl) ?_
    refine lv_iconst (v := 1) hx hb dX9_count_33 (by decide) ?_
    refine lv_isub hx hb dX9_count_34 ?_
    refine lv_icmp_ne (tgt := 42) hx hb dX9_count_35 (by decide) (fun c_53 => ?_) (fun c_53 => ?_)
    · refine lv_iconst (v := 0) hx hb dX9_count_42 (by decide) ?_
      refine lv_iadd hx hb dX9_count_43 ?_
      refine lv_topi (fun x_54 ex_54 => ?_)
      refine lv_istore_n (lv' := [(2, .int x_54), (3, .int (nI j)), (0, .ref (B 0)), (1, .int (nI k))]) hx hb dX9_count_44 rfl hl (by decide) rfl (fun ls hl => ?_)
      obtain ⟨x_55, ex_55⟩ : ∃ y : Int32, y = (nI j) + 1 := ⟨_, rfl⟩
      refine lv_iinc (v := x_55) (lv' := [(3, .int x_55), (2, .int x_54), (0, .ref (B 0)), (1, .int (nI k))]) hx hb dX9_count_45 hl (k := 1) rfl (by rw [ex_55]; rfl) (by decide) rfl (fun ls hl => ?_)
      refine lv_goto (tgt := 17) hx hb dX9_count_48 (by decide) ?_
      exact ih (j + 1) x_55 x_54 ls (by rw [ex_55]; exact nI_1 j) (by omega) (by rw [ex_54, cnt, if_neg c_53, e2]; exact Int32.add_zero _) (lv_sub hl [0, 1, 2, 3] rfl)
    · refine lv_iconst (v := 1) hx hb dX9_count_38 (by decide) ?_
      refine lv_goto (tgt := 43) hx hb dX9_count_39 (by decide) ?_
      refine lv_iadd hx hb dX9_count_43 ?_
      refine lv_topi (fun x_54 ex_54 => ?_)
      refine lv_istore_n (lv' := [(2, .int x_54), (3, .int (nI j)), (0, .ref (B 0)), (1, .int (nI k))]) hx hb dX9_count_44 rfl hl (by decide) rfl (fun ls hl => ?_)
      obtain ⟨x_55, ex_55⟩ : ∃ y : Int32, y = (nI j) + 1 := ⟨_, rfl⟩
      refine lv_iinc (v := x_55) (lv' := [(3, .int x_55), (2, .int x_54), (0, .ref (B 0)), (1, .int (nI k))]) hx hb dX9_count_45 hl (k := 1) rfl (by rw [ex_55]; rfl) (by decide) rfl (fun ls hl => ?_)
      refine lv_goto (tgt := 17) hx hb dX9_count_48 (by decide) ?_
      exact ih (j + 1) x_55 x_54 ls (by rw [ex_55]; exact nI_1 j) (by omega) (by rw [ex_54, cnt, if_pos c_53, e2]) (lv_sub hl [0, 1, 2, 3] rfl)
theorem in7 {k : Nat} (h : k < 8) : inB (nI k) 0 7 = 1 := inB_yes (nI_pos (by omega)) (nI_nlt (a := 7) (b := k) (by omega) (by omega))
theorem in7_no {k : Int32} (h : k.toInt < 0 ∨ 7 < k.toInt) : inB k 0 7 = 0 := by
  rcases h with h | h
  · exact inB_no (Or.inl (by rw [Int32.lt_iff_toInt_lt, Int32.toInt_zero]; exact h))
  · exact inB_no (Or.inr (by rw [Int32.lt_iff_toInt_lt, show (7 : Int32).toInt = 7 from by decide]; exact h))
set_option maxHeartbeats 4000000 in
set_option maxRecDepth 100000 in
theorem M_count (l : Launch) (X : Cx) (B : Nat → Nat) (n : Nat) (wm dy tl : Int32) (g : Nat → Rc) (hs : Nat → Int32) (rest : va_W) (t : Tr) (k f : Nat) (hk : k < 8) (hf : 1 ≤ f) (hn : n ≤ 40) : cI l yX9_count cX9_count 4 (some .int) (rl f) X [.ref (B 0), .int (nI k)] (wM X B n wm dy tl g hs rest false t) (fun v w => v = countV n g dy tl k ∧ w = wM X B n wm dy tl g hs rest false t) := by
  refine met_start (by decide) (Nat.le_of_ble_eq_true rfl) ?_
  intro p e s m below meth c ls fx hS hl
  obtain ⟨hx, hb, hr, hml, hown, hG, hlk, hF, hz, hnm⟩ := fx
  have hown : s.vm.findClass RX9 = some m.cls := hown
  have hl : lv_has ls 4 [(0, .ref (B 0)), (1, .int (nI k))] := hl
  refine lv_iload_n hx hb dX9_count_0 rfl (lv_at hl 1 rfl) ?_
  refine lv_iconst (v := 0) hx hb dX9_count_1 (by decide) ?_
  refine lv_bipush (v := 7) hx hb dX9_count_2 (by decide) ?_
  refine m_ci (m_runS (n := 3) (rest := []) ⟨hx, hb, hml, hown, hG⟩ (c_in l X _ (nI k) 0 7 0) kw_521 kw_522 kw_20 kw_523 (by decide +kernel) (rl_ok (by omega) (by decide)) hF hz hS rfl hl.1 rfl (Nat.le_of_ble_eq_true rfl) dX9_count_4 ⟨Nat.zero_le _, Nat.zero_le _⟩) hS (fun r_1 w1 H locs hw1 hS => ?_)
  obtain ⟨rfl, rfl⟩ := hw1
  refine lv_if_ne (tgt := 13) hx hb dX9_count_7 (by decide) (fun c_2 => ?_) (fun c_2 => absurd c_2 (by rw [in7 hk]; decide))
  refine lv_iconst (v := 0) hx hb dX9_count_13 (by decide) ?_
  refine lv_istore_n (lv' := [(2, .int 0), (0, .ref (B 0)), (1, .int (nI k))]) hx hb dX9_count_14 rfl hl (by decide) rfl (fun ls hl => ?_)
  refine lv_iconst (v := 0) hx hb dX9_count_15 (by decide) ?_
  refine lv_istore_n (lv' := [(3, .int 0), (2, .int 0), (0, .ref (B 0)), (1, .int (nI k))]) hx hb dX9_count_16 rfl hl (by decide) rfl (fun ls hl => ?_)
  exact Mc_loop hk hn hx hb hr hml hown hG hlk hF hz hS ⟨rfl, rfl⟩ n 0 0 0 ls nI_0.symm (by omega) rfl (lv_sub hl [0, 1, 2, 3] rfl)
set_option maxHeartbeats 4000000 in
set_option maxRecDepth 100000 in
theorem M_count_bad (l : Launch) (X : Cx) (B : Nat → Nat) (n : Nat) (wm dy tl : Int32) (g : Nat → Rc) (hs : Nat → Int32) (rest : va_W) (t : Tr) (k : Int32) (f : Nat) (hf : 1 ≤ f) (h0 : k.toInt < 0 ∨ 7 < k.toInt) : cI l yX9_count cX9_count 4 (some .int) (rl f) X [.ref (B 0), .int k] (wM X B n wm dy tl g hs rest false t) (fun v w => v = -2 ∧ w = wM X B n wm dy tl g hs rest false t) := by
  refine met_start (by decide) (Nat.le_of_ble_eq_true rfl) ?_
  intro p e s m below meth c ls fx hS hl
  obtain ⟨hx, hb, hr, hml, hown, hG, hlk, hF, hz, hnm⟩ := fx
  have hown : s.vm.findClass RX9 = some m.cls := hown
  have hl : lv_has ls 4 [(0, .ref (B 0)), (1, .int k)] := hl
  refine lv_iload_n hx hb dX9_count_0 rfl (lv_at hl 1 rfl) ?_
  refine lv_iconst (v := 0) hx hb dX9_count_1 (by decide) ?_
  refine lv_bipush (v := 7) hx hb dX9_count_2 (by decide) ?_
  refine m_ci (m_runS (n := 3) (rest := []) ⟨hx, hb, hml, hown, hG⟩ (c_in l X _ k 0 7 0) kw_521 kw_522 kw_20 kw_523 (by decide +kernel) (rl_ok (by omega) (by decide)) hF hz hS rfl hl.1 rfl (Nat.le_of_ble_eq_true rfl) dX9_count_4 ⟨Nat.zero_le _, Nat.zero_le _⟩) hS (fun r_1 w1 H locs hw1 hS => ?_)
  obtain ⟨rfl, rfl⟩ := hw1
  refine lv_if_ne (tgt := 13) hx hb dX9_count_7 (by decide) (fun c_2 => absurd (in7_no h0) c_2) (fun c_2 => ?_)
  refine lv_bipush (v := -2) hx hb dX9_count_10 (by decide) ?_
  exact m_iret hx hb hr hlk hS (⟨rfl, rfl⟩) (Nat.le_refl 0) (Nat.le_refl 0) dX9_count_12
set_option maxHeartbeats 4000000 in
set_option maxRecDepth 100000 in
theorem M_told_bad (l : Launch) (X : Cx) (B : Nat → Nat) (n : Nat) (wm dy tl : Int32) (g : Nat → Rc) (hs : Nat → Int32) (rest : va_W) (t : Tr) (j f : Nat) (hn : n ≤ 40) (hkd : ∀ i, i < n → kd (g i) < 7) (hk0 : ∀ i, i < n → g i 0 = nI (kd (g i))) (hj : j < n) (k : Int32) (hf : 2 ≤ f) (h0 : k.toInt < 0 ∨ 7 < k.toInt) : cI l yX9_told cX9_told 3 (some .int) (rl f) X [.ref (B 0), .int (nI j), .int k] (wM X B n wm dy tl g hs rest false t) (fun v w' => v = -2 ∧ w' = wM X B n wm dy tl g hs rest false t) := by
  refine met_start (by decide) (Nat.le_of_ble_eq_true rfl) ?_
  intro p e s m below meth c ls fx hS hl
  obtain ⟨hx, hb, hr, hml, hown, hG, hlk, hF, hz, hnm⟩ := fx
  have hown : s.vm.findClass RX9 = some m.cls := hown
  have hl : lv_has ls 3 [(0, .ref (B 0)), (1, .int (nI j)), (2, .int k)] := hl
  have hj4 : j < 40 := by omega
  refine lv_aload_n hx hb dX9_told_0 rfl (lv_at hl 0 rfl) ?_
  refine lv_iload_n hx hb dX9_told_1 rfl (lv_at hl 1 rfl) ?_
  refine m_ci (m_runV (n := 1) (rest := []) ⟨hx, hb, hml, hown, hG⟩ (M_isBatch l X B n wm dy tl g hs rest false t (nI j) 1 (by decide)) kw_528 kw_530 kw_6 kw_20 kw_531 (by decide +kernel) (rl_ok (by omega) (by decide)) hF hz hS (q0 := 0) rfl rfl rfl hl.1 rfl (Nat.le_of_ble_eq_true rfl) dX9_told_2 ⟨Nat.zero_le _, Nat.zero_le _⟩) hS (fun r_1 w1 H locs hw1 hS => ?_)
  obtain ⟨rfl, rfl⟩ := hw1
  refine lv_if_eq (tgt := 18) hx hb dX9_told_5 (by decide) (fun c_2 => absurd c_2 (by rw [isB_yes hj hn]; decide)) (fun c_2 => ?_)
  refine lv_iload_n hx hb dX9_told_8 rfl (lv_at hl 2 rfl) ?_
  refine lv_iconst (v := 0) hx hb dX9_told_9 (by decide) ?_
  refine lv_bipush (v := 7) hx hb dX9_told_10 (by decide) ?_
  refine m_ci (m_runS (n := 3) (rest := []) ⟨hx, hb, hml, hown, hG⟩ (c_in l X _ k 0 7 0) kw_521 kw_522 kw_20 kw_523 (by decide +kernel) (rl_ok (by omega) (by decide)) hF hz hS rfl hl.1 rfl (Nat.le_of_ble_eq_true rfl) dX9_told_12 ⟨Nat.zero_le _, Nat.zero_le _⟩) hS (fun r_3 w2 H locs hw2 hS => ?_)
  obtain ⟨rfl, rfl⟩ := hw2
  refine lv_if_ne (tgt := 21) hx hb dX9_told_15 (by decide) (fun c_4 => absurd (in7_no h0) c_4) (fun c_4 => ?_)
  refine lv_bipush (v := -2) hx hb dX9_told_18 (by decide) ?_
  exact m_iret hx hb hr hlk hS (⟨rfl, rfl⟩) (Nat.le_refl 0) (Nat.le_refl 0) dX9_told_20
set_option maxHeartbeats 4000000 in
set_option maxRecDepth 100000 in
theorem M_told (l : Launch) (X : Cx) (B : Nat → Nat) (n : Nat) (wm dy tl : Int32) (g : Nat → Rc) (hs : Nat → Int32) (rest : va_W) (t : Tr) (j f : Nat) (hn : n ≤ 40) (hkd : ∀ i, i < n → kd (g i) < 7) (hk0 : ∀ i, i < n → g i 0 = nI (kd (g i))) (hj : j < n) (k : Nat) (hk : k < 8) (hf : 2 ≤ f)  : cI l yX9_told cX9_told 3 (some .int) (rl f) X [.ref (B 0), .int (nI j), .int (nI k)] (wM X B n wm dy tl g hs rest false t) (fun v w' => v = toldV (g j) k ∧ w' = wM X B n wm dy tl g hs rest false t) := by
  refine met_start (by decide) (Nat.le_of_ble_eq_true rfl) ?_
  intro p e s m below meth c ls fx hS hl
  obtain ⟨hx, hb, hr, hml, hown, hG, hlk, hF, hz, hnm⟩ := fx
  have hown : s.vm.findClass RX9 = some m.cls := hown
  have hl : lv_has ls 3 [(0, .ref (B 0)), (1, .int (nI j)), (2, .int (nI k))] := hl
  have hj4 : j < 40 := by omega
  refine lv_aload_n hx hb dX9_told_0 rfl (lv_at hl 0 rfl) ?_
  refine lv_iload_n hx hb dX9_told_1 rfl (lv_at hl 1 rfl) ?_
  refine m_ci (m_runV (n := 1) (rest := []) ⟨hx, hb, hml, hown, hG⟩ (M_isBatch l X B n wm dy tl g hs rest false t (nI j) 1 (by decide)) kw_528 kw_530 kw_6 kw_20 kw_531 (by decide +kernel) (rl_ok (by omega) (by decide)) hF hz hS (q0 := 0) rfl rfl rfl hl.1 rfl (Nat.le_of_ble_eq_true rfl) dX9_told_2 ⟨Nat.zero_le _, Nat.zero_le _⟩) hS (fun r_1 w1 H locs hw1 hS => ?_)
  obtain ⟨rfl, rfl⟩ := hw1
  refine lv_if_eq (tgt := 18) hx hb dX9_told_5 (by decide) (fun c_2 => absurd c_2 (by rw [isB_yes hj hn]; decide)) (fun c_2 => ?_)
  refine lv_iload_n hx hb dX9_told_8 rfl (lv_at hl 2 rfl) ?_
  refine lv_iconst (v := 0) hx hb dX9_told_9 (by decide) ?_
  refine lv_bipush (v := 7) hx hb dX9_told_10 (by decide) ?_
  refine m_ci (m_runS (n := 3) (rest := []) ⟨hx, hb, hml, hown, hG⟩ (c_in l X _ (nI k) 0 7 0) kw_521 kw_522 kw_20 kw_523 (by decide +kernel) (rl_ok (by omega) (by decide)) hF hz hS rfl hl.1 rfl (Nat.le_of_ble_eq_true rfl) dX9_told_12 ⟨Nat.zero_le _, Nat.zero_le _⟩) hS (fun r_3 w2 H locs hw2 hS => ?_)
  obtain ⟨rfl, rfl⟩ := hw2
  refine lv_if_ne (tgt := 21) hx hb dX9_told_15 (by decide) (fun c_4 => ?_) (fun c_4 => absurd c_4 (by rw [in7 hk]; decide))
  refine lv_iload_n hx hb dX9_told_21 rfl (lv_at hl 2 rfl) ?_
  match k, hk with
  | 0, _ =>
    refine lv_tableIn (off := 42) (tgt := 64) hx hb dX9_told_22 (by decide) (by decide) (by decide) (by decide) ?_
    refine lv_aload_n hx hb dX9_told_64 rfl (lv_at hl 0 rfl) ?_
    refine m_get (v := .ref (B 1)) hx hb hG hown hF hS (0) rfl rfl iG_9 1 (by decide) kw_472 (fun _ h9 => h9) rfl dX9_told_65 ?_
    refine lv_iload_n hx hb dX9_told_68 rfl (lv_at hl 1 rfl) ?_
    refine m_ialdv (v := g j 0) hx hb hF hS (1) rfl (j) rfl (hj4) (by decide) rfl dX9_told_69 ?_
    exact m_iret hx hb hr hlk hS (⟨rfl, rfl⟩) (Nat.le_refl 0) (Nat.le_refl 0) dX9_told_70
  | 1, _ =>
    refine lv_tableIn (off := 49) (tgt := 71) hx hb dX9_told_22 (by decide) (by decide) (by decide) (by decide) ?_
    refine lv_aload_n hx hb dX9_told_71 rfl (lv_at hl 0 rfl) ?_
    refine m_get (v := .ref (B 3)) hx hb hG hown hF hS (0) rfl rfl iG_9 3 (by decide) kw_474 (fun _ h9 => h9) rfl dX9_told_72 ?_
    refine lv_iload_n hx hb dX9_told_75 rfl (lv_at hl 1 rfl) ?_
    refine m_ialdv (v := g j 3) hx hb hF hS (3) rfl (j) rfl (hj4) (by decide) rfl dX9_told_76 ?_
    exact m_iret hx hb hr hlk hS (⟨rfl, rfl⟩) (Nat.le_refl 0) (Nat.le_refl 0) dX9_told_77
  | 2, _ =>
    refine lv_tableIn (off := 56) (tgt := 78) hx hb dX9_told_22 (by decide) (by decide) (by decide) (by decide) ?_
    refine lv_aload_n hx hb dX9_told_78 rfl (lv_at hl 0 rfl) ?_
    refine m_get (v := .ref (B 4)) hx hb hG hown hF hS (0) rfl rfl iG_9 4 (by decide) kw_475 (fun _ h9 => h9) rfl dX9_told_79 ?_
    refine lv_iload_n hx hb dX9_told_82 rfl (lv_at hl 1 rfl) ?_
    refine m_ialdv (v := g j 4) hx hb hF hS (4) rfl (j) rfl (hj4) (by decide) rfl dX9_told_83 ?_
    exact m_iret hx hb hr hlk hS (⟨rfl, rfl⟩) (Nat.le_refl 0) (Nat.le_refl 0) dX9_told_84
  | 3, _ =>
    refine lv_tableIn (off := 63) (tgt := 85) hx hb dX9_told_22 (by decide) (by decide) (by decide) (by decide) ?_
    refine lv_aload_n hx hb dX9_told_85 rfl (lv_at hl 0 rfl) ?_
    refine m_get (v := .ref (B 5)) hx hb hG hown hF hS (0) rfl rfl iG_9 5 (by decide) kw_476 (fun _ h9 => h9) rfl dX9_told_86 ?_
    refine lv_iload_n hx hb dX9_told_89 rfl (lv_at hl 1 rfl) ?_
    refine m_ialdv (v := g j 5) hx hb hF hS (5) rfl (j) rfl (hj4) (by decide) rfl dX9_told_90 ?_
    exact m_iret hx hb hr hlk hS (⟨rfl, rfl⟩) (Nat.le_refl 0) (Nat.le_refl 0) dX9_told_91
  | 4, _ =>
    refine lv_tableIn (off := 70) (tgt := 92) hx hb dX9_told_22 (by decide) (by decide) (by decide) (by decide) ?_
    refine lv_aload_n hx hb dX9_told_92 rfl (lv_at hl 0 rfl) ?_
    refine m_get (v := .ref (B 3)) hx hb hG hown hF hS (0) rfl rfl iG_9 3 (by decide) kw_474 (fun _ h9 => h9) rfl dX9_told_93 ?_
    refine lv_iload_n hx hb dX9_told_96 rfl (lv_at hl 1 rfl) ?_
    refine m_ialdv (v := g j 3) hx hb hF hS (3) rfl (j) rfl (hj4) (by decide) rfl dX9_told_97 ?_
    refine lv_iconst (v := 1) hx hb dX9_told_98 (by decide) ?_
    refine lv_icmp_ne (tgt := 111) hx hb dX9_told_99 (by decide) (fun c_5 => ?_) (fun c_5 => ?_)
    · refine lv_iconst (v := -1) hx hb dX9_told_111 (by decide) ?_
      exact m_iret hx hb hr hlk hS (⟨by rw [toldV, if_neg c_5], rfl⟩) (Nat.le_refl 0) (Nat.le_refl 0) dX9_told_112
    · refine lv_aload_n hx hb dX9_told_102 rfl (lv_at hl 0 rfl) ?_
      refine m_get (v := .ref (B 6)) hx hb hG hown hF hS (0) rfl rfl iG_9 6 (by decide) kw_477 (fun _ h9 => h9) rfl dX9_told_103 ?_
      refine lv_iload_n hx hb dX9_told_106 rfl (lv_at hl 1 rfl) ?_
      refine m_ialdv (v := g j 6) hx hb hF hS (6) rfl (j) rfl (hj4) (by decide) rfl dX9_told_107 ?_
      refine lv_goto (tgt := 112) hx hb dX9_told_108 (by decide) ?_
      exact m_iret hx hb hr hlk hS (⟨by rw [toldV, if_pos c_5], rfl⟩) (Nat.le_refl 0) (Nat.le_refl 0) dX9_told_112
  | 5, _ =>
    refine lv_tableIn (off := 91) (tgt := 113) hx hb dX9_told_22 (by decide) (by decide) (by decide) (by decide) ?_
    refine lv_aload_n hx hb dX9_told_113 rfl (lv_at hl 0 rfl) ?_
    refine m_get (v := .ref (B 3)) hx hb hG hown hF hS (0) rfl rfl iG_9 3 (by decide) kw_474 (fun _ h9 => h9) rfl dX9_told_114 ?_
    refine lv_iload_n hx hb dX9_told_117 rfl (lv_at hl 1 rfl) ?_
    refine m_ialdv (v := g j 3) hx hb hF hS (3) rfl (j) rfl (hj4) (by decide) rfl dX9_told_118 ?_
    refine lv_iconst (v := 2) hx hb dX9_told_119 (by decide) ?_
    refine lv_icmp_ne (tgt := 132) hx hb dX9_told_120 (by decide) (fun c_5 => ?_) (fun c_5 => ?_)
    · refine lv_iconst (v := -1) hx hb dX9_told_132 (by decide) ?_
      exact m_iret hx hb hr hlk hS (⟨by rw [toldV, if_neg c_5], rfl⟩) (Nat.le_refl 0) (Nat.le_refl 0) dX9_told_133
    · refine lv_aload_n hx hb dX9_told_123 rfl (lv_at hl 0 rfl) ?_
      refine m_get (v := .ref (B 7)) hx hb hG hown hF hS (0) rfl rfl iG_9 7 (by decide) kw_478 (fun _ h9 => h9) rfl dX9_told_124 ?_
      refine lv_iload_n hx hb dX9_told_127 rfl (lv_at hl 1 rfl) ?_
      refine m_ialdv (v := g j 7) hx hb hF hS (7) rfl (j) rfl (hj4) (by decide) rfl dX9_told_128 ?_
      refine lv_goto (tgt := 133) hx hb dX9_told_129 (by decide) ?_
      exact m_iret hx hb hr hlk hS (⟨by rw [toldV, if_pos c_5], rfl⟩) (Nat.le_refl 0) (Nat.le_refl 0) dX9_told_133
  | 6, _ =>
    refine lv_tableIn (off := 112) (tgt := 134) hx hb dX9_told_22 (by decide) (by decide) (by decide) (by decide) ?_
    refine lv_aload_n hx hb dX9_told_134 rfl (lv_at hl 0 rfl) ?_
    refine m_get (v := .ref (B 1)) hx hb hG hown hF hS (0) rfl rfl iG_9 1 (by decide) kw_472 (fun _ h9 => h9) rfl dX9_told_135 ?_
    refine lv_iload_n hx hb dX9_told_138 rfl (lv_at hl 1 rfl) ?_
    refine m_ialdv (v := nI (kd (g j))) hx hb hF hS (1) rfl (j) rfl (hj4) (by decide) (hk0 j hj) dX9_told_139 ?_
    refine m_ci (m_runS (n := 1) (rest := []) ⟨hx, hb, hml, hown, hG⟩ (M_isKeeping l X _ (nI (kd (g j))) 1 (by decide)) kw_556 kw_557 kw_20 kw_558 (by decide +kernel) (rl_ok (by omega) (by decide)) hF hz hS rfl hl.1 rfl (Nat.le_of_ble_eq_true rfl) dX9_told_140 ⟨Nat.zero_le _, Nat.zero_le _⟩) hS (fun r_5 w3 H locs hw3 hS => ?_)
    obtain ⟨rfl, rfl⟩ := hw3
    by_cases h5 : 2 ≤ kd (g j) ∧ kd (g j) < 5
    · refine lv_if_eq (tgt := 150) hx hb dX9_told_143 (by decide) (fun c_6 => absurd c_6 (by rw [keep_yes h5.1 h5.2]; decide)) (fun c_6 => ?_)
      refine lv_iconst (v := 1) hx hb dX9_told_146 (by decide) ?_
      refine lv_goto (tgt := 151) hx hb dX9_told_147 (by decide) ?_
      exact m_iret hx hb hr hlk hS (⟨by show (1 : Int32) = if 2 ≤ kd (g j) ∧ kd (g j) < 5 then 1 else 0; rw [if_pos h5], rfl⟩) (Nat.le_refl 0) (Nat.le_refl 0) dX9_told_151
    · refine lv_if_eq (tgt := 150) hx hb dX9_told_143 (by decide) (fun c_6 => ?_) (fun c_6 => absurd (keep_no h5 (hkd j hj)) c_6)
      refine lv_iconst (v := 0) hx hb dX9_told_150 (by decide) ?_
      exact m_iret hx hb hr hlk hS (⟨by show (0 : Int32) = if 2 ≤ kd (g j) ∧ kd (g j) < 5 then 1 else 0; rw [if_neg h5], rfl⟩) (Nat.le_refl 0) (Nat.le_refl 0) dX9_told_151
  | 7, _ =>
    refine lv_tableOut (tgt := 152) hx hb dX9_told_22 (by decide) (by decide) ?_
    refine lv_aload_n hx hb dX9_told_152 rfl (lv_at hl 0 rfl) ?_
    refine m_get (v := .ref (B 1)) hx hb hG hown hF hS (0) rfl rfl iG_9 1 (by decide) kw_472 (fun _ h9 => h9) rfl dX9_told_153 ?_
    refine lv_iload_n hx hb dX9_told_156 rfl (lv_at hl 1 rfl) ?_
    refine m_ialdv (v := nI (kd (g j))) hx hb hF hS (1) rfl (j) rfl (hj4) (by decide) (hk0 j hj) dX9_told_157 ?_
    refine m_ci (m_runS (n := 1) (rest := []) ⟨hx, hb, hml, hown, hG⟩ (M_isGlazed l X _ (nI (kd (g j))) 0) kw_563 kw_564 kw_20 kw_565 (by decide +kernel) (rl_ok (by omega) (by decide)) hF hz hS rfl hl.1 rfl (Nat.le_of_ble_eq_true rfl) dX9_told_158 ⟨Nat.zero_le _, Nat.zero_le _⟩) hS (fun r_5 w3 H locs hw3 hS => ?_)
    obtain ⟨rfl, rfl⟩ := hw3
    by_cases h5 : 5 ≤ kd (g j)
    · refine lv_if_eq (tgt := 168) hx hb dX9_told_161 (by decide) (fun c_6 => absurd c_6 (by rw [glaz_yes h5 (hkd j hj)]; decide)) (fun c_6 => ?_)
      refine lv_iconst (v := 1) hx hb dX9_told_164 (by decide) ?_
      refine lv_goto (tgt := 169) hx hb dX9_told_165 (by decide) ?_
      exact m_iret hx hb hr hlk hS (⟨by show (1 : Int32) = if 5 ≤ kd (g j) then 1 else 0; rw [if_pos h5], rfl⟩) (Nat.le_refl 0) (Nat.le_refl 0) dX9_told_169
    · refine lv_if_eq (tgt := 168) hx hb dX9_told_161 (by decide) (fun c_6 => ?_) (fun c_6 => absurd (glaz_no h5) c_6)
      refine lv_iconst (v := 0) hx hb dX9_told_168 (by decide) ?_
      exact m_iret hx hb hr hlk hS (⟨by show (0 : Int32) = if 5 ≤ kd (g j) then 1 else 0; rw [if_neg h5], rfl⟩) (Nat.le_refl 0) (Nat.le_refl 0) dX9_told_169
set_option maxHeartbeats 4000000 in
set_option maxRecDepth 100000 in
theorem M_out_no (l : Launch) (X : Cx) (B : Nat → Nat) (n : Nat) (wm dy tl : Int32) (g : Nat → Rc) (hs : Nat → Int32) (rest : va_W) (t : Tr) (j f : Nat) (hn : n ≤ 40) (hkd : ∀ i, i < n → kd (g i) < 7) (hk0 : ∀ i, i < n → g i 0 = nI (kd (g i))) (hj : j < n) (hf : 2 ≤ f) (h0 : ¬ g j 3 = 1) : cI l yX9_out cX9_out 2 (some .int) (rl f) X [.ref (B 0), .int (nI j)] (wM X B n wm dy tl g hs rest false t) (fun v w' => v = -3 ∧ w' = wM X B n wm dy tl g hs rest false t) := by
  refine met_start (by decide) (Nat.le_of_ble_eq_true rfl) ?_
  intro p e s m below meth c ls fx hS hl
  obtain ⟨hx, hb, hr, hml, hown, hG, hlk, hF, hz, hnm⟩ := fx
  have hown : s.vm.findClass RX9 = some m.cls := hown
  have hl : lv_has ls 2 [(0, .ref (B 0)), (1, .int (nI j))] := hl
  have hj4 : j < 40 := by omega
  refine lv_aload_n hx hb dX9_out_0 rfl (lv_at hl 0 rfl) ?_
  refine lv_iload_n hx hb dX9_out_1 rfl (lv_at hl 1 rfl) ?_
  refine m_ci (m_runV (n := 1) (rest := []) ⟨hx, hb, hml, hown, hG⟩ (M_isBatch l X B n wm dy tl g hs rest false t (nI j) 1 (by decide)) kw_528 kw_530 kw_6 kw_20 kw_531 (by decide +kernel) (rl_ok (by omega) (by decide)) hF hz hS (q0 := 0) rfl rfl rfl hl.1 rfl (Nat.le_of_ble_eq_true rfl) dX9_out_2 ⟨Nat.zero_le _, Nat.zero_le _⟩) hS (fun r_1 w1 H locs hw1 hS => ?_)
  obtain ⟨rfl, rfl⟩ := hw1
  refine lv_if_ne (tgt := 11) hx hb dX9_out_5 (by decide) (fun c_2 => ?_) (fun c_2 => absurd c_2 (by rw [isB_yes hj hn]; decide))
  refine lv_aload_n hx hb dX9_out_11 rfl (lv_at hl 0 rfl) ?_
  refine m_get (v := .ref (B 3)) hx hb hG hown hF hS (0) rfl rfl iG_9 3 (by decide) kw_474 (fun _ h9 => h9) rfl dX9_out_12 ?_
  refine lv_iload_n hx hb dX9_out_15 rfl (lv_at hl 1 rfl) ?_
  refine m_ialdv (v := g j 3) hx hb hF hS (3) rfl (j) rfl (hj4) (by decide) rfl dX9_out_16 ?_
  refine lv_iconst (v := 1) hx hb dX9_out_17 (by decide) ?_
  refine lv_icmp_eq (tgt := 24) hx hb dX9_out_18 (by decide) (fun c_3 => absurd c_3 (h0)) (fun c_3 => ?_)
  refine lv_bipush (v := -3) hx hb dX9_out_21 (by decide) ?_
  exact m_iret hx hb hr hlk hS (⟨rfl, rfl⟩) (Nat.le_refl 0) (Nat.le_refl 0) dX9_out_23
set_option maxHeartbeats 4000000 in
set_option maxRecDepth 100000 in
theorem M_out_lost (l : Launch) (X : Cx) (B : Nat → Nat) (n : Nat) (wm dy tl : Int32) (g : Nat → Rc) (hs : Nat → Int32) (rest : va_W) (t : Tr) (j f : Nat) (hn : n ≤ 40) (hkd : ∀ i, i < n → kd (g i) < 7) (hk0 : ∀ i, i < n → g i 0 = nI (kd (g i))) (hj : j < n) (hf : 2 ≤ f) (h0 : g j 3 = 1) (h1 : g j 5 < 40) : cI l yX9_out cX9_out 2 (some .int) (rl f) X [.ref (B 0), .int (nI j)] (wM X B n wm dy tl g hs rest false t) (fun v w' => v = g j 5 ∧ w' = wM X B n wm dy tl (va_up g j (va_up (va_up (g j) 3 4) 7 dy)) hs rest false t) := by
  refine met_start (by decide) (Nat.le_of_ble_eq_true rfl) ?_
  intro p e s m below meth c ls fx hS hl
  obtain ⟨hx, hb, hr, hml, hown, hG, hlk, hF, hz, hnm⟩ := fx
  have hown : s.vm.findClass RX9 = some m.cls := hown
  have hl : lv_has ls 2 [(0, .ref (B 0)), (1, .int (nI j))] := hl
  have hj4 : j < 40 := by omega
  refine lv_aload_n hx hb dX9_out_0 rfl (lv_at hl 0 rfl) ?_
  refine lv_iload_n hx hb dX9_out_1 rfl (lv_at hl 1 rfl) ?_
  refine m_ci (m_runV (n := 1) (rest := []) ⟨hx, hb, hml, hown, hG⟩ (M_isBatch l X B n wm dy tl g hs rest false t (nI j) 1 (by decide)) kw_528 kw_530 kw_6 kw_20 kw_531 (by decide +kernel) (rl_ok (by omega) (by decide)) hF hz hS (q0 := 0) rfl rfl rfl hl.1 rfl (Nat.le_of_ble_eq_true rfl) dX9_out_2 ⟨Nat.zero_le _, Nat.zero_le _⟩) hS (fun r_1 w1 H locs hw1 hS => ?_)
  obtain ⟨rfl, rfl⟩ := hw1
  refine lv_if_ne (tgt := 11) hx hb dX9_out_5 (by decide) (fun c_2 => ?_) (fun c_2 => absurd c_2 (by rw [isB_yes hj hn]; decide))
  refine lv_aload_n hx hb dX9_out_11 rfl (lv_at hl 0 rfl) ?_
  refine m_get (v := .ref (B 3)) hx hb hG hown hF hS (0) rfl rfl iG_9 3 (by decide) kw_474 (fun _ h9 => h9) rfl dX9_out_12 ?_
  refine lv_iload_n hx hb dX9_out_15 rfl (lv_at hl 1 rfl) ?_
  refine m_ialdv (v := g j 3) hx hb hF hS (3) rfl (j) rfl (hj4) (by decide) rfl dX9_out_16 ?_
  refine lv_iconst (v := 1) hx hb dX9_out_17 (by decide) ?_
  refine lv_icmp_eq (tgt := 24) hx hb dX9_out_18 (by decide) (fun c_3 => ?_) (fun c_3 => absurd (h0) c_3)
  refine lv_aload_n hx hb dX9_out_24 rfl (lv_at hl 0 rfl) ?_
  refine m_get (v := .ref (B 3)) hx hb hG hown hF hS (0) rfl rfl iG_9 3 (by decide) kw_474 (fun _ h9 => h9) rfl dX9_out_25 ?_
  refine lv_iload_n hx hb dX9_out_28 rfl (lv_at hl 1 rfl) ?_
  refine lv_aload_n hx hb dX9_out_29 rfl (lv_at hl 0 rfl) ?_
  refine m_get (v := .ref (B 5)) hx hb hG hown hF hS (0) rfl rfl iG_9 5 (by decide) kw_476 (fun _ h9 => h9) rfl dX9_out_30 ?_
  refine lv_iload_n hx hb dX9_out_33 rfl (lv_at hl 1 rfl) ?_
  refine m_ialdv (v := g j 5) hx hb hF hS (5) rfl (j) rfl (hj4) (by decide) rfl dX9_out_34 ?_
  refine lv_bipush (v := 40) hx hb dX9_out_35 (by decide) ?_
  refine lv_icmp_lt (tgt := 44) hx hb dX9_out_37 (by decide) (fun c_4 => ?_) (fun c_4 => absurd (h1) c_4)
  refine lv_iconst (v := 4) hx hb dX9_out_44 (by decide) ?_
  refine m_iast hx hb hF hS (3) rfl (j) rfl (hj4) (by decide) (wM X B n wm dy tl (va_up g j (va_up (g j) 3 4)) hs rest false t) (wM_s3) dX9_out_45 (fun H locs hS => ?_)
  refine lv_aload_n hx hb dX9_out_46 rfl (lv_at hl 0 rfl) ?_
  refine m_get (v := .ref (B 7)) hx hb hG hown hF hS (0) rfl rfl iG_9 7 (by decide) kw_478 (fun _ h9 => h9) rfl dX9_out_47 ?_
  refine lv_iload_n hx hb dX9_out_50 rfl (lv_at hl 1 rfl) ?_
  refine lv_aload_n hx hb dX9_out_51 rfl (lv_at hl 0 rfl) ?_
  refine m_get (v := .int dy) hx hb hG hown hF hS (0) rfl rfl iG_9 10 (by decide) kw_481 (fun _ h9 => h9) rfl dX9_out_52 ?_
  refine m_iast hx hb hF hS (7) rfl (j) rfl (hj4) (by decide) (wM X B n wm dy tl (va_up g j (va_up (va_up (g j) 3 4) 7 dy)) hs rest false t) (by rw [wM_s7, va_up_up, va_up_self]) dX9_out_55 (fun H locs hS => ?_)
  refine lv_aload_n hx hb dX9_out_56 rfl (lv_at hl 0 rfl) ?_
  refine m_get (v := .ref (B 5)) hx hb hG hown hF hS (0) rfl rfl iG_9 5 (by decide) kw_476 (fun _ h9 => h9) rfl dX9_out_57 ?_
  refine lv_iload_n hx hb dX9_out_60 rfl (lv_at hl 1 rfl) ?_
  refine m_ialdv (v := g j 5) hx hb hF hS (5) rfl (j) rfl (hj4) (by decide) (by show va_up g j (va_up (va_up (g j) 3 4) 7 dy) j 5 = g j 5; rw [va_up_self]; rfl) dX9_out_61 ?_
  exact m_iret hx hb hr hlk hS (⟨rfl, rfl⟩) (Nat.le_refl 0) (Nat.le_refl 0) dX9_out_62
set_option maxHeartbeats 4000000 in
set_option maxRecDepth 100000 in
theorem M_out_done (l : Launch) (X : Cx) (B : Nat → Nat) (n : Nat) (wm dy tl : Int32) (g : Nat → Rc) (hs : Nat → Int32) (rest : va_W) (t : Tr) (j f : Nat) (hn : n ≤ 40) (hkd : ∀ i, i < n → kd (g i) < 7) (hk0 : ∀ i, i < n → g i 0 = nI (kd (g i))) (hj : j < n) (hf : 2 ≤ f) (h0 : g j 3 = 1) (h1 : ¬ g j 5 < 40) : cI l yX9_out cX9_out 2 (some .int) (rl f) X [.ref (B 0), .int (nI j)] (wM X B n wm dy tl g hs rest false t) (fun v w' => v = g j 5 ∧ w' = wM X B n wm dy tl (va_up g j (va_up (va_up (g j) 3 2) 7 dy)) hs rest false t) := by
  refine met_start (by decide) (Nat.le_of_ble_eq_true rfl) ?_
  intro p e s m below meth c ls fx hS hl
  obtain ⟨hx, hb, hr, hml, hown, hG, hlk, hF, hz, hnm⟩ := fx
  have hown : s.vm.findClass RX9 = some m.cls := hown
  have hl : lv_has ls 2 [(0, .ref (B 0)), (1, .int (nI j))] := hl
  have hj4 : j < 40 := by omega
  refine lv_aload_n hx hb dX9_out_0 rfl (lv_at hl 0 rfl) ?_
  refine lv_iload_n hx hb dX9_out_1 rfl (lv_at hl 1 rfl) ?_
  refine m_ci (m_runV (n := 1) (rest := []) ⟨hx, hb, hml, hown, hG⟩ (M_isBatch l X B n wm dy tl g hs rest false t (nI j) 1 (by decide)) kw_528 kw_530 kw_6 kw_20 kw_531 (by decide +kernel) (rl_ok (by omega) (by decide)) hF hz hS (q0 := 0) rfl rfl rfl hl.1 rfl (Nat.le_of_ble_eq_true rfl) dX9_out_2 ⟨Nat.zero_le _, Nat.zero_le _⟩) hS (fun r_1 w1 H locs hw1 hS => ?_)
  obtain ⟨rfl, rfl⟩ := hw1
  refine lv_if_ne (tgt := 11) hx hb dX9_out_5 (by decide) (fun c_2 => ?_) (fun c_2 => absurd c_2 (by rw [isB_yes hj hn]; decide))
  refine lv_aload_n hx hb dX9_out_11 rfl (lv_at hl 0 rfl) ?_
  refine m_get (v := .ref (B 3)) hx hb hG hown hF hS (0) rfl rfl iG_9 3 (by decide) kw_474 (fun _ h9 => h9) rfl dX9_out_12 ?_
  refine lv_iload_n hx hb dX9_out_15 rfl (lv_at hl 1 rfl) ?_
  refine m_ialdv (v := g j 3) hx hb hF hS (3) rfl (j) rfl (hj4) (by decide) rfl dX9_out_16 ?_
  refine lv_iconst (v := 1) hx hb dX9_out_17 (by decide) ?_
  refine lv_icmp_eq (tgt := 24) hx hb dX9_out_18 (by decide) (fun c_3 => ?_) (fun c_3 => absurd (h0) c_3)
  refine lv_aload_n hx hb dX9_out_24 rfl (lv_at hl 0 rfl) ?_
  refine m_get (v := .ref (B 3)) hx hb hG hown hF hS (0) rfl rfl iG_9 3 (by decide) kw_474 (fun _ h9 => h9) rfl dX9_out_25 ?_
  refine lv_iload_n hx hb dX9_out_28 rfl (lv_at hl 1 rfl) ?_
  refine lv_aload_n hx hb dX9_out_29 rfl (lv_at hl 0 rfl) ?_
  refine m_get (v := .ref (B 5)) hx hb hG hown hF hS (0) rfl rfl iG_9 5 (by decide) kw_476 (fun _ h9 => h9) rfl dX9_out_30 ?_
  refine lv_iload_n hx hb dX9_out_33 rfl (lv_at hl 1 rfl) ?_
  refine m_ialdv (v := g j 5) hx hb hF hS (5) rfl (j) rfl (hj4) (by decide) rfl dX9_out_34 ?_
  refine lv_bipush (v := 40) hx hb dX9_out_35 (by decide) ?_
  refine lv_icmp_lt (tgt := 44) hx hb dX9_out_37 (by decide) (fun c_4 => absurd c_4 (h1)) (fun c_4 => ?_)
  refine lv_iconst (v := 2) hx hb dX9_out_40 (by decide) ?_
  refine lv_goto (tgt := 45) hx hb dX9_out_41 (by decide) ?_
  refine m_iast hx hb hF hS (3) rfl (j) rfl (hj4) (by decide) (wM X B n wm dy tl (va_up g j (va_up (g j) 3 2)) hs rest false t) (wM_s3) dX9_out_45 (fun H locs hS => ?_)
  refine lv_aload_n hx hb dX9_out_46 rfl (lv_at hl 0 rfl) ?_
  refine m_get (v := .ref (B 7)) hx hb hG hown hF hS (0) rfl rfl iG_9 7 (by decide) kw_478 (fun _ h9 => h9) rfl dX9_out_47 ?_
  refine lv_iload_n hx hb dX9_out_50 rfl (lv_at hl 1 rfl) ?_
  refine lv_aload_n hx hb dX9_out_51 rfl (lv_at hl 0 rfl) ?_
  refine m_get (v := .int dy) hx hb hG hown hF hS (0) rfl rfl iG_9 10 (by decide) kw_481 (fun _ h9 => h9) rfl dX9_out_52 ?_
  refine m_iast hx hb hF hS (7) rfl (j) rfl (hj4) (by decide) (wM X B n wm dy tl (va_up g j (va_up (va_up (g j) 3 2) 7 dy)) hs rest false t) (by rw [wM_s7, va_up_up, va_up_self]) dX9_out_55 (fun H locs hS => ?_)
  refine lv_aload_n hx hb dX9_out_56 rfl (lv_at hl 0 rfl) ?_
  refine m_get (v := .ref (B 5)) hx hb hG hown hF hS (0) rfl rfl iG_9 5 (by decide) kw_476 (fun _ h9 => h9) rfl dX9_out_57 ?_
  refine lv_iload_n hx hb dX9_out_60 rfl (lv_at hl 1 rfl) ?_
  refine m_ialdv (v := g j 5) hx hb hF hS (5) rfl (j) rfl (hj4) (by decide) (by show va_up g j (va_up (va_up (g j) 3 2) 7 dy) j 5 = g j 5; rw [va_up_self]; rfl) dX9_out_61 ?_
  exact m_iret hx hb hr hlk hS (⟨rfl, rfl⟩) (Nat.le_refl 0) (Nat.le_refl 0) dX9_out_62
set_option maxHeartbeats 4000000 in
set_option maxRecDepth 100000 in
theorem M_bake_bad (l : Launch) (X : Cx) (B : Nat → Nat) (n : Nat) (wm dy tl : Int32) (g : Nat → Rc) (hs : Nat → Int32) (rest : va_W) (t : Tr) (j f : Nat) (hn : n ≤ 40) (hkd : ∀ i, i < n → kd (g i) < 7) (hk0 : ∀ i, i < n → g i 0 = nI (kd (g i))) (hj : j < n) (o : Int32) (hf : 3 ≤ f) (h0 : inB o 0 2 = 0) : cI l yX9_bake cX9_bake 3 (some .int) (rl f) X [.ref (B 0), .int (nI j), .int o] (wM X B n wm dy tl g hs rest false t) (fun v w' => v = -2 ∧ w' = wM X B n wm dy tl g hs rest false t) := by
  refine met_start (by decide) (Nat.le_of_ble_eq_true rfl) ?_
  intro p e s m below meth c ls fx hS hl
  obtain ⟨hx, hb, hr, hml, hown, hG, hlk, hF, hz, hnm⟩ := fx
  have hown : s.vm.findClass RX9 = some m.cls := hown
  have hl : lv_has ls 3 [(0, .ref (B 0)), (1, .int (nI j)), (2, .int o)] := hl
  have hj4 : j < 40 := by omega
  refine lv_aload_n hx hb dX9_bake_0 rfl (lv_at hl 0 rfl) ?_
  refine lv_iload_n hx hb dX9_bake_1 rfl (lv_at hl 1 rfl) ?_
  refine m_ci (m_runV (n := 1) (rest := []) ⟨hx, hb, hml, hown, hG⟩ (M_isBatch l X B n wm dy tl g hs rest false t (nI j) 1 (by decide)) kw_528 kw_530 kw_6 kw_20 kw_531 (by decide +kernel) (rl_ok (by omega) (by decide)) hF hz hS (q0 := 0) rfl rfl rfl hl.1 rfl (Nat.le_of_ble_eq_true rfl) dX9_bake_2 ⟨Nat.zero_le _, Nat.zero_le _⟩) hS (fun r_1 w1 H locs hw1 hS => ?_)
  obtain ⟨rfl, rfl⟩ := hw1
  refine lv_if_eq (tgt := 17) hx hb dX9_bake_5 (by decide) (fun c_2 => absurd c_2 (by rw [isB_yes hj hn]; decide)) (fun c_2 => ?_)
  refine lv_iload_n hx hb dX9_bake_8 rfl (lv_at hl 2 rfl) ?_
  refine lv_iconst (v := 0) hx hb dX9_bake_9 (by decide) ?_
  refine lv_iconst (v := 2) hx hb dX9_bake_10 (by decide) ?_
  refine m_ci (m_runS (n := 3) (rest := []) ⟨hx, hb, hml, hown, hG⟩ (c_in l X _ o 0 2 0) kw_521 kw_522 kw_20 kw_523 (by decide +kernel) (rl_ok (by omega) (by decide)) hF hz hS rfl hl.1 rfl (Nat.le_of_ble_eq_true rfl) dX9_bake_11 ⟨Nat.zero_le _, Nat.zero_le _⟩) hS (fun r_3 w2 H locs hw2 hS => ?_)
  obtain ⟨rfl, rfl⟩ := hw2
  refine lv_if_ne (tgt := 20) hx hb dX9_bake_14 (by decide) (fun c_4 => absurd (h0) c_4) (fun c_4 => ?_)
  refine lv_bipush (v := -2) hx hb dX9_bake_17 (by decide) ?_
  exact m_iret hx hb hr hlk hS (⟨rfl, rfl⟩) (Nat.le_refl 0) (Nat.le_refl 0) dX9_bake_19
set_option maxHeartbeats 4000000 in
set_option maxRecDepth 100000 in
theorem M_bake_no (l : Launch) (X : Cx) (B : Nat → Nat) (n : Nat) (wm dy tl : Int32) (g : Nat → Rc) (hs : Nat → Int32) (rest : va_W) (t : Tr) (j f : Nat) (hn : n ≤ 40) (hkd : ∀ i, i < n → kd (g i) < 7) (hk0 : ∀ i, i < n → g i 0 = nI (kd (g i))) (hj : j < n) (o : Nat) (ho : o < 3) (hf : 3 ≤ f) (h0 : ¬ g j 3 = 0 ∨ ¬ needV (kd (g j)) (g j 1) ≤ g j 4) : cI l yX9_bake cX9_bake 3 (some .int) (rl f) X [.ref (B 0), .int (nI j), .int (nI o)] (wM X B n wm dy tl g hs rest false t) (fun v w' => v = -3 ∧ w' = wM X B n wm dy tl g hs rest false t) := by
  refine met_start (by decide) (Nat.le_of_ble_eq_true rfl) ?_
  intro p e s m below meth c ls fx hS hl
  obtain ⟨hx, hb, hr, hml, hown, hG, hlk, hF, hz, hnm⟩ := fx
  have hown : s.vm.findClass RX9 = some m.cls := hown
  have hl : lv_has ls 3 [(0, .ref (B 0)), (1, .int (nI j)), (2, .int (nI o))] := hl
  have hj4 : j < 40 := by omega
  refine lv_aload_n hx hb dX9_bake_0 rfl (lv_at hl 0 rfl) ?_
  refine lv_iload_n hx hb dX9_bake_1 rfl (lv_at hl 1 rfl) ?_
  refine m_ci (m_runV (n := 1) (rest := []) ⟨hx, hb, hml, hown, hG⟩ (M_isBatch l X B n wm dy tl g hs rest false t (nI j) 1 (by decide)) kw_528 kw_530 kw_6 kw_20 kw_531 (by decide +kernel) (rl_ok (by omega) (by decide)) hF hz hS (q0 := 0) rfl rfl rfl hl.1 rfl (Nat.le_of_ble_eq_true rfl) dX9_bake_2 ⟨Nat.zero_le _, Nat.zero_le _⟩) hS (fun r_1 w1 H locs hw1 hS => ?_)
  obtain ⟨rfl, rfl⟩ := hw1
  refine lv_if_eq (tgt := 17) hx hb dX9_bake_5 (by decide) (fun c_2 => absurd c_2 (by rw [isB_yes hj hn]; decide)) (fun c_2 => ?_)
  refine lv_iload_n hx hb dX9_bake_8 rfl (lv_at hl 2 rfl) ?_
  refine lv_iconst (v := 0) hx hb dX9_bake_9 (by decide) ?_
  refine lv_iconst (v := 2) hx hb dX9_bake_10 (by decide) ?_
  refine m_ci (m_runS (n := 3) (rest := []) ⟨hx, hb, hml, hown, hG⟩ (c_in l X _ (nI o) 0 2 0) kw_521 kw_522 kw_20 kw_523 (by decide +kernel) (rl_ok (by omega) (by decide)) hF hz hS rfl hl.1 rfl (Nat.le_of_ble_eq_true rfl) dX9_bake_11 ⟨Nat.zero_le _, Nat.zero_le _⟩) hS (fun r_3 w2 H locs hw2 hS => ?_)
  obtain ⟨rfl, rfl⟩ := hw2
  refine lv_if_ne (tgt := 20) hx hb dX9_bake_14 (by decide) (fun c_4 => ?_) (fun c_4 => absurd c_4 (by rw [ov2 ho]; decide))
  refine lv_aload_n hx hb dX9_bake_20 rfl (lv_at hl 0 rfl) ?_
  refine m_get (v := .ref (B 3)) hx hb hG hown hF hS (0) rfl rfl iG_9 3 (by decide) kw_474 (fun _ h9 => h9) rfl dX9_bake_21 ?_
  refine lv_iload_n hx hb dX9_bake_24 rfl (lv_at hl 1 rfl) ?_
  refine m_ialdv (v := g j 3) hx hb hF hS (3) rfl (j) rfl (hj4) (by decide) rfl dX9_bake_25 ?_
  refine lv_if_ne (tgt := 43) hx hb dX9_bake_26 (by decide) (fun c_5 => ?_) (fun c_5 => ?_)
  · refine lv_bipush (v := -3) hx hb dX9_bake_43 (by decide) ?_
    exact m_iret hx hb hr hlk hS (⟨rfl, rfl⟩) (Nat.le_refl 0) (Nat.le_refl 0) dX9_bake_45
  · refine lv_aload_n hx hb dX9_bake_29 rfl (lv_at hl 0 rfl) ?_
    refine m_get (v := .ref (B 4)) hx hb hG hown hF hS (0) rfl rfl iG_9 4 (by decide) kw_475 (fun _ h9 => h9) rfl dX9_bake_30 ?_
    refine lv_iload_n hx hb dX9_bake_33 rfl (lv_at hl 1 rfl) ?_
    refine m_ialdv (v := g j 4) hx hb hF hS (4) rfl (j) rfl (hj4) (by decide) rfl dX9_bake_34 ?_
    refine lv_aload_n hx hb dX9_bake_35 rfl (lv_at hl 0 rfl) ?_
    refine lv_iload_n hx hb dX9_bake_36 rfl (lv_at hl 1 rfl) ?_
    refine m_ci (m_runV (n := 1) (rest := [.int (g j 4)]) ⟨hx, hb, hml, hown, hG⟩ (M_need l X B n wm dy tl g hs rest false t j (kd (g j)) 2 hj4 (hk0 j hj) (hkd j hj) (by decide) tR.f) kw_544 kw_546 kw_10 kw_20 kw_547 (by decide +kernel) (rl_ok (by omega) (by decide)) hF hz hS (q0 := 0) rfl rfl rfl hl.1 rfl (Nat.le_of_ble_eq_true rfl) dX9_bake_37 ⟨Nat.zero_le _, Nat.zero_le _⟩) hS (fun r_6 w3 H locs hw3 hS => ?_)
    obtain ⟨rfl, rfl⟩ := hw3
    refine lv_icmp_ge (tgt := 46) hx hb dX9_bake_40 (by decide) (fun c_7 => absurd c_7 (h0.resolve_left (fun q => q c_5))) (fun c_7 => ?_)
    refine lv_bipush (v := -3) hx hb dX9_bake_43 (by decide) ?_
    exact m_iret hx hb hr hlk hS (⟨rfl, rfl⟩) (Nat.le_refl 0) (Nat.le_refl 0) dX9_bake_45
set_option maxHeartbeats 4000000 in
set_option maxRecDepth 100000 in
theorem M_bake_full (l : Launch) (X : Cx) (B : Nat → Nat) (n : Nat) (wm dy tl : Int32) (g : Nat → Rc) (hs : Nat → Int32) (rest : va_W) (t : Tr) (j f : Nat) (hn : n ≤ 40) (hkd : ∀ i, i < n → kd (g i) < 7) (hk0 : ∀ i, i < n → g i 0 = nI (kd (g i))) (hj : j < n) (o : Nat) (ho : o < 3) (hf : 3 ≤ f) (h0 : g j 3 = 0) (h1 : needV (kd (g j)) (g j 1) ≤ g j 4) (h2 : ¬ masm g (nI o) n + g j 1 ≤ 800) : cI l yX9_bake cX9_bake 3 (some .int) (rl f) X [.ref (B 0), .int (nI j), .int (nI o)] (wM X B n wm dy tl g hs rest false t) (fun v w' => v = -4 ∧ w' = wM X B n wm dy tl g hs rest false t) := by
  refine met_start (by decide) (Nat.le_of_ble_eq_true rfl) ?_
  intro p e s m below meth c ls fx hS hl
  obtain ⟨hx, hb, hr, hml, hown, hG, hlk, hF, hz, hnm⟩ := fx
  have hown : s.vm.findClass RX9 = some m.cls := hown
  have hl : lv_has ls 3 [(0, .ref (B 0)), (1, .int (nI j)), (2, .int (nI o))] := hl
  have hj4 : j < 40 := by omega
  refine lv_aload_n hx hb dX9_bake_0 rfl (lv_at hl 0 rfl) ?_
  refine lv_iload_n hx hb dX9_bake_1 rfl (lv_at hl 1 rfl) ?_
  refine m_ci (m_runV (n := 1) (rest := []) ⟨hx, hb, hml, hown, hG⟩ (M_isBatch l X B n wm dy tl g hs rest false t (nI j) 1 (by decide)) kw_528 kw_530 kw_6 kw_20 kw_531 (by decide +kernel) (rl_ok (by omega) (by decide)) hF hz hS (q0 := 0) rfl rfl rfl hl.1 rfl (Nat.le_of_ble_eq_true rfl) dX9_bake_2 ⟨Nat.zero_le _, Nat.zero_le _⟩) hS (fun r_1 w1 H locs hw1 hS => ?_)
  obtain ⟨rfl, rfl⟩ := hw1
  refine lv_if_eq (tgt := 17) hx hb dX9_bake_5 (by decide) (fun c_2 => absurd c_2 (by rw [isB_yes hj hn]; decide)) (fun c_2 => ?_)
  refine lv_iload_n hx hb dX9_bake_8 rfl (lv_at hl 2 rfl) ?_
  refine lv_iconst (v := 0) hx hb dX9_bake_9 (by decide) ?_
  refine lv_iconst (v := 2) hx hb dX9_bake_10 (by decide) ?_
  refine m_ci (m_runS (n := 3) (rest := []) ⟨hx, hb, hml, hown, hG⟩ (c_in l X _ (nI o) 0 2 0) kw_521 kw_522 kw_20 kw_523 (by decide +kernel) (rl_ok (by omega) (by decide)) hF hz hS rfl hl.1 rfl (Nat.le_of_ble_eq_true rfl) dX9_bake_11 ⟨Nat.zero_le _, Nat.zero_le _⟩) hS (fun r_3 w2 H locs hw2 hS => ?_)
  obtain ⟨rfl, rfl⟩ := hw2
  refine lv_if_ne (tgt := 20) hx hb dX9_bake_14 (by decide) (fun c_4 => ?_) (fun c_4 => absurd c_4 (by rw [ov2 ho]; decide))
  refine lv_aload_n hx hb dX9_bake_20 rfl (lv_at hl 0 rfl) ?_
  refine m_get (v := .ref (B 3)) hx hb hG hown hF hS (0) rfl rfl iG_9 3 (by decide) kw_474 (fun _ h9 => h9) rfl dX9_bake_21 ?_
  refine lv_iload_n hx hb dX9_bake_24 rfl (lv_at hl 1 rfl) ?_
  refine m_ialdv (v := g j 3) hx hb hF hS (3) rfl (j) rfl (hj4) (by decide) rfl dX9_bake_25 ?_
  refine lv_if_ne (tgt := 43) hx hb dX9_bake_26 (by decide) (fun c_5 => absurd (h0) c_5) (fun c_5 => ?_)
  refine lv_aload_n hx hb dX9_bake_29 rfl (lv_at hl 0 rfl) ?_
  refine m_get (v := .ref (B 4)) hx hb hG hown hF hS (0) rfl rfl iG_9 4 (by decide) kw_475 (fun _ h9 => h9) rfl dX9_bake_30 ?_
  refine lv_iload_n hx hb dX9_bake_33 rfl (lv_at hl 1 rfl) ?_
  refine m_ialdv (v := g j 4) hx hb hF hS (4) rfl (j) rfl (hj4) (by decide) rfl dX9_bake_34 ?_
  refine lv_aload_n hx hb dX9_bake_35 rfl (lv_at hl 0 rfl) ?_
  refine lv_iload_n hx hb dX9_bake_36 rfl (lv_at hl 1 rfl) ?_
  refine m_ci (m_runV (n := 1) (rest := [.int (g j 4)]) ⟨hx, hb, hml, hown, hG⟩ (M_need l X B n wm dy tl g hs rest false t j (kd (g j)) 2 hj4 (hk0 j hj) (hkd j hj) (by decide) tR.f) kw_544 kw_546 kw_10 kw_20 kw_547 (by decide +kernel) (rl_ok (by omega) (by decide)) hF hz hS (q0 := 0) rfl rfl rfl hl.1 rfl (Nat.le_of_ble_eq_true rfl) dX9_bake_37 ⟨Nat.zero_le _, Nat.zero_le _⟩) hS (fun r_6 w3 H locs hw3 hS => ?_)
  obtain ⟨rfl, rfl⟩ := hw3
  refine lv_icmp_ge (tgt := 46) hx hb dX9_bake_40 (by decide) (fun c_7 => ?_) (fun c_7 => absurd (h1) c_7)
  refine lv_aload_n hx hb dX9_bake_46 rfl (lv_at hl 0 rfl) ?_
  refine lv_iload_n hx hb dX9_bake_47 rfl (lv_at hl 2 rfl) ?_
  refine m_ci (m_runV (n := 1) (rest := []) ⟨hx, hb, hml, hown, hG⟩ (M_massIn l X B n wm dy tl g hs rest t (nI o) 0 hn) kw_594 kw_596 kw_16 kw_20 kw_597 (by decide +kernel) (rl_ok (by omega) (by decide)) hF hz hS (q0 := 0) rfl rfl rfl hl.1 rfl (Nat.le_of_ble_eq_true rfl) dX9_bake_48 ⟨Nat.zero_le _, Nat.zero_le _⟩) hS (fun r_8 w4 H locs hw4 hS => ?_)
  obtain ⟨rfl, rfl⟩ := hw4
  refine lv_aload_n hx hb dX9_bake_51 rfl (lv_at hl 0 rfl) ?_
  refine m_get (v := .ref (B 2)) hx hb hG hown hF hS (0) rfl rfl iG_9 2 (by decide) kw_473 (fun _ h9 => h9) rfl dX9_bake_52 ?_
  refine lv_iload_n hx hb dX9_bake_55 rfl (lv_at hl 1 rfl) ?_
  refine m_ialdv (v := g j 1) hx hb hF hS (2) rfl (j) rfl (hj4) (by decide) rfl dX9_bake_56 ?_
  refine lv_iadd hx hb dX9_bake_57 ?_
  refine lv_sipush (v := 800) hx hb dX9_bake_58 (by decide) ?_
  refine lv_icmp_le (tgt := 67) hx hb dX9_bake_61 (by decide) (fun c_9 => absurd c_9 (h2)) (fun c_9 => ?_)
  refine lv_bipush (v := -4) hx hb dX9_bake_64 (by decide) ?_
  exact m_iret hx hb hr hlk hS (⟨rfl, rfl⟩) (Nat.le_refl 0) (Nat.le_refl 0) dX9_bake_66
set_option maxHeartbeats 4000000 in
set_option maxRecDepth 100000 in
theorem M_bake (l : Launch) (X : Cx) (B : Nat → Nat) (n : Nat) (wm dy tl : Int32) (g : Nat → Rc) (hs : Nat → Int32) (rest : va_W) (t : Tr) (j f : Nat) (hn : n ≤ 40) (hkd : ∀ i, i < n → kd (g i) < 7) (hk0 : ∀ i, i < n → g i 0 = nI (kd (g i))) (hj : j < n) (o : Nat) (ho : o < 3) (hf : 3 ≤ f) (h0 : g j 3 = 0) (h1 : needV (kd (g j)) (g j 1) ≤ g j 4) (h2 : masm g (nI o) n + g j 1 ≤ 800) : cI l yX9_bake cX9_bake 3 (some .int) (rl f) X [.ref (B 0), .int (nI j), .int (nI o)] (wM X B n wm dy tl g hs rest false t) (fun v w' => v = masm (va_up g j (va_up (va_up (g j) 3 1) 6 (nI o))) (nI o) n ∧ w' = wM X B n wm dy tl (va_up g j (va_up (va_up (g j) 3 1) 6 (nI o))) hs rest false t) := by
  refine met_start (by decide) (Nat.le_of_ble_eq_true rfl) ?_
  intro p e s m below meth c ls fx hS hl
  obtain ⟨hx, hb, hr, hml, hown, hG, hlk, hF, hz, hnm⟩ := fx
  have hown : s.vm.findClass RX9 = some m.cls := hown
  have hl : lv_has ls 3 [(0, .ref (B 0)), (1, .int (nI j)), (2, .int (nI o))] := hl
  have hj4 : j < 40 := by omega
  refine lv_aload_n hx hb dX9_bake_0 rfl (lv_at hl 0 rfl) ?_
  refine lv_iload_n hx hb dX9_bake_1 rfl (lv_at hl 1 rfl) ?_
  refine m_ci (m_runV (n := 1) (rest := []) ⟨hx, hb, hml, hown, hG⟩ (M_isBatch l X B n wm dy tl g hs rest false t (nI j) 1 (by decide)) kw_528 kw_530 kw_6 kw_20 kw_531 (by decide +kernel) (rl_ok (by omega) (by decide)) hF hz hS (q0 := 0) rfl rfl rfl hl.1 rfl (Nat.le_of_ble_eq_true rfl) dX9_bake_2 ⟨Nat.zero_le _, Nat.zero_le _⟩) hS (fun r_1 w1 H locs hw1 hS => ?_)
  obtain ⟨rfl, rfl⟩ := hw1
  refine lv_if_eq (tgt := 17) hx hb dX9_bake_5 (by decide) (fun c_2 => absurd c_2 (by rw [isB_yes hj hn]; decide)) (fun c_2 => ?_)
  refine lv_iload_n hx hb dX9_bake_8 rfl (lv_at hl 2 rfl) ?_
  refine lv_iconst (v := 0) hx hb dX9_bake_9 (by decide) ?_
  refine lv_iconst (v := 2) hx hb dX9_bake_10 (by decide) ?_
  refine m_ci (m_runS (n := 3) (rest := []) ⟨hx, hb, hml, hown, hG⟩ (c_in l X _ (nI o) 0 2 0) kw_521 kw_522 kw_20 kw_523 (by decide +kernel) (rl_ok (by omega) (by decide)) hF hz hS rfl hl.1 rfl (Nat.le_of_ble_eq_true rfl) dX9_bake_11 ⟨Nat.zero_le _, Nat.zero_le _⟩) hS (fun r_3 w2 H locs hw2 hS => ?_)
  obtain ⟨rfl, rfl⟩ := hw2
  refine lv_if_ne (tgt := 20) hx hb dX9_bake_14 (by decide) (fun c_4 => ?_) (fun c_4 => absurd c_4 (by rw [ov2 ho]; decide))
  refine lv_aload_n hx hb dX9_bake_20 rfl (lv_at hl 0 rfl) ?_
  refine m_get (v := .ref (B 3)) hx hb hG hown hF hS (0) rfl rfl iG_9 3 (by decide) kw_474 (fun _ h9 => h9) rfl dX9_bake_21 ?_
  refine lv_iload_n hx hb dX9_bake_24 rfl (lv_at hl 1 rfl) ?_
  refine m_ialdv (v := g j 3) hx hb hF hS (3) rfl (j) rfl (hj4) (by decide) rfl dX9_bake_25 ?_
  refine lv_if_ne (tgt := 43) hx hb dX9_bake_26 (by decide) (fun c_5 => absurd (h0) c_5) (fun c_5 => ?_)
  refine lv_aload_n hx hb dX9_bake_29 rfl (lv_at hl 0 rfl) ?_
  refine m_get (v := .ref (B 4)) hx hb hG hown hF hS (0) rfl rfl iG_9 4 (by decide) kw_475 (fun _ h9 => h9) rfl dX9_bake_30 ?_
  refine lv_iload_n hx hb dX9_bake_33 rfl (lv_at hl 1 rfl) ?_
  refine m_ialdv (v := g j 4) hx hb hF hS (4) rfl (j) rfl (hj4) (by decide) rfl dX9_bake_34 ?_
  refine lv_aload_n hx hb dX9_bake_35 rfl (lv_at hl 0 rfl) ?_
  refine lv_iload_n hx hb dX9_bake_36 rfl (lv_at hl 1 rfl) ?_
  refine m_ci (m_runV (n := 1) (rest := [.int (g j 4)]) ⟨hx, hb, hml, hown, hG⟩ (M_need l X B n wm dy tl g hs rest false t j (kd (g j)) 2 hj4 (hk0 j hj) (hkd j hj) (by decide) tR.f) kw_544 kw_546 kw_10 kw_20 kw_547 (by decide +kernel) (rl_ok (by omega) (by decide)) hF hz hS (q0 := 0) rfl rfl rfl hl.1 rfl (Nat.le_of_ble_eq_true rfl) dX9_bake_37 ⟨Nat.zero_le _, Nat.zero_le _⟩) hS (fun r_6 w3 H locs hw3 hS => ?_)
  obtain ⟨rfl, rfl⟩ := hw3
  refine lv_icmp_ge (tgt := 46) hx hb dX9_bake_40 (by decide) (fun c_7 => ?_) (fun c_7 => absurd (h1) c_7)
  refine lv_aload_n hx hb dX9_bake_46 rfl (lv_at hl 0 rfl) ?_
  refine lv_iload_n hx hb dX9_bake_47 rfl (lv_at hl 2 rfl) ?_
  refine m_ci (m_runV (n := 1) (rest := []) ⟨hx, hb, hml, hown, hG⟩ (M_massIn l X B n wm dy tl g hs rest t (nI o) 0 hn) kw_594 kw_596 kw_16 kw_20 kw_597 (by decide +kernel) (rl_ok (by omega) (by decide)) hF hz hS (q0 := 0) rfl rfl rfl hl.1 rfl (Nat.le_of_ble_eq_true rfl) dX9_bake_48 ⟨Nat.zero_le _, Nat.zero_le _⟩) hS (fun r_8 w4 H locs hw4 hS => ?_)
  obtain ⟨rfl, rfl⟩ := hw4
  refine lv_aload_n hx hb dX9_bake_51 rfl (lv_at hl 0 rfl) ?_
  refine m_get (v := .ref (B 2)) hx hb hG hown hF hS (0) rfl rfl iG_9 2 (by decide) kw_473 (fun _ h9 => h9) rfl dX9_bake_52 ?_
  refine lv_iload_n hx hb dX9_bake_55 rfl (lv_at hl 1 rfl) ?_
  refine m_ialdv (v := g j 1) hx hb hF hS (2) rfl (j) rfl (hj4) (by decide) rfl dX9_bake_56 ?_
  refine lv_iadd hx hb dX9_bake_57 ?_
  refine lv_sipush (v := 800) hx hb dX9_bake_58 (by decide) ?_
  refine lv_icmp_le (tgt := 67) hx hb dX9_bake_61 (by decide) (fun c_9 => ?_) (fun c_9 => absurd (h2) c_9)
  refine lv_aload_n hx hb dX9_bake_67 rfl (lv_at hl 0 rfl) ?_
  refine m_get (v := .ref (B 3)) hx hb hG hown hF hS (0) rfl rfl iG_9 3 (by decide) kw_474 (fun _ h9 => h9) rfl dX9_bake_68 ?_
  refine lv_iload_n hx hb dX9_bake_71 rfl (lv_at hl 1 rfl) ?_
  refine lv_iconst (v := 1) hx hb dX9_bake_72 (by decide) ?_
  refine m_iast hx hb hF hS (3) rfl (j) rfl (hj4) (by decide) (wM X B n wm dy tl (va_up g j (va_up (g j) 3 1)) hs rest false t) (wM_s3) dX9_bake_73 (fun H locs hS => ?_)
  refine lv_aload_n hx hb dX9_bake_74 rfl (lv_at hl 0 rfl) ?_
  refine m_get (v := .ref (B 6)) hx hb hG hown hF hS (0) rfl rfl iG_9 6 (by decide) kw_477 (fun _ h9 => h9) rfl dX9_bake_75 ?_
  refine lv_iload_n hx hb dX9_bake_78 rfl (lv_at hl 1 rfl) ?_
  refine lv_iload_n hx hb dX9_bake_79 rfl (lv_at hl 2 rfl) ?_
  refine m_iast hx hb hF hS (6) rfl (j) rfl (hj4) (by decide) (wM X B n wm dy tl (va_up g j (va_up (va_up (g j) 3 1) 6 (nI o))) hs rest false t) (by rw [wM_s6, va_up_up, va_up_self]) dX9_bake_80 (fun H locs hS => ?_)
  refine lv_aload_n hx hb dX9_bake_81 rfl (lv_at hl 0 rfl) ?_
  refine lv_iload_n hx hb dX9_bake_82 rfl (lv_at hl 2 rfl) ?_
  refine m_ci (m_runV (n := 1) (rest := []) ⟨hx, hb, hml, hown, hG⟩ (M_massIn l X B n wm dy tl (va_up g j (va_up (va_up (g j) 3 1) 6 (nI o))) hs rest t (nI o) 0 hn) kw_594 kw_596 kw_16 kw_20 kw_597 (by decide +kernel) (rl_ok (by omega) (by decide)) hF hz hS (q0 := 0) rfl rfl rfl hl.1 rfl (Nat.le_of_ble_eq_true rfl) dX9_bake_83 ⟨Nat.zero_le _, Nat.zero_le _⟩) hS (fun r_10 w5 H locs hw5 hS => ?_)
  obtain ⟨rfl, rfl⟩ := hw5
  exact m_iret hx hb hr hlk hS (⟨rfl, rfl⟩) (Nat.le_refl 0) (Nat.le_refl 0) dX9_bake_86
set_option maxHeartbeats 4000000 in
set_option maxRecDepth 100000 in
theorem M_sell_no (l : Launch) (X : Cx) (B : Nat → Nat) (n : Nat) (wm dy tl : Int32) (g : Nat → Rc) (hs : Nat → Int32) (rest : va_W) (t : Tr) (j f : Nat) (hn : n ≤ 40) (hkd : ∀ i, i < n → kd (g i) < 7) (hk0 : ∀ i, i < n → g i 0 = nI (kd (g i))) (hj : j < n) (hf : 2 ≤ f) (h0 : ¬ g j 3 = 2) : cI l yX9_sell cX9_sell 3 (some .int) (rl f) X [.ref (B 0), .int (nI j)] (wM X B n wm dy tl g hs rest false t) (fun v w' => v = -3 ∧ w' = wM X B n wm dy tl g hs rest false t) := by
  refine met_start (by decide) (Nat.le_of_ble_eq_true rfl) ?_
  intro p e s m below meth c ls fx hS hl
  obtain ⟨hx, hb, hr, hml, hown, hG, hlk, hF, hz, hnm⟩ := fx
  have hown : s.vm.findClass RX9 = some m.cls := hown
  have hl : lv_has ls 3 [(0, .ref (B 0)), (1, .int (nI j))] := hl
  have hj4 : j < 40 := by omega
  refine lv_aload_n hx hb dX9_sell_0 rfl (lv_at hl 0 rfl) ?_
  refine lv_iload_n hx hb dX9_sell_1 rfl (lv_at hl 1 rfl) ?_
  refine m_ci (m_runV (n := 1) (rest := []) ⟨hx, hb, hml, hown, hG⟩ (M_isBatch l X B n wm dy tl g hs rest false t (nI j) 1 (by decide)) kw_528 kw_530 kw_6 kw_20 kw_531 (by decide +kernel) (rl_ok (by omega) (by decide)) hF hz hS (q0 := 0) rfl rfl rfl hl.1 rfl (Nat.le_of_ble_eq_true rfl) dX9_sell_2 ⟨Nat.zero_le _, Nat.zero_le _⟩) hS (fun r_1 w1 H locs hw1 hS => ?_)
  obtain ⟨rfl, rfl⟩ := hw1
  refine lv_if_ne (tgt := 11) hx hb dX9_sell_5 (by decide) (fun c_2 => ?_) (fun c_2 => absurd c_2 (by rw [isB_yes hj hn]; decide))
  refine lv_aload_n hx hb dX9_sell_11 rfl (lv_at hl 0 rfl) ?_
  refine m_get (v := .ref (B 3)) hx hb hG hown hF hS (0) rfl rfl iG_9 3 (by decide) kw_474 (fun _ h9 => h9) rfl dX9_sell_12 ?_
  refine lv_iload_n hx hb dX9_sell_15 rfl (lv_at hl 1 rfl) ?_
  refine m_ialdv (v := g j 3) hx hb hF hS (3) rfl (j) rfl (hj4) (by decide) rfl dX9_sell_16 ?_
  refine lv_iconst (v := 2) hx hb dX9_sell_17 (by decide) ?_
  refine lv_icmp_eq (tgt := 24) hx hb dX9_sell_18 (by decide) (fun c_3 => absurd c_3 (h0)) (fun c_3 => ?_)
  refine lv_bipush (v := -3) hx hb dX9_sell_21 (by decide) ?_
  exact m_iret hx hb hr hlk hS (⟨rfl, rfl⟩) (Nat.le_refl 0) (Nat.le_refl 0) dX9_sell_23
theorem sel_ge {v : Int32} (h : 1 ≤ v) : (if 1 < v then v else 1) = v := by
  by_cases h2 : 1 < v
  · rw [if_pos h2]
  · rw [if_neg h2]
    exact Int32.le_antisymm h (Int32.not_lt.mp h2)
theorem sel_lt {v : Int32} (h : ¬ 1 ≤ v) : (if 1 < v then v else 1) = 1 := if_neg (fun q => h (Int32.le_of_lt q))
set_option maxHeartbeats 4000000 in
set_option maxRecDepth 100000 in
theorem M_sell (l : Launch) (X : Cx) (B : Nat → Nat) (n : Nat) (wm dy tl : Int32) (g : Nat → Rc) (hs : Nat → Int32) (rest : va_W) (t : Tr) (j f : Nat) (hn : n ≤ 40) (hkd : ∀ i, i < n → kd (g i) < 7) (hk0 : ∀ i, i < n → g i 0 = nI (kd (g i))) (hj : j < n) (hf : 5 ≤ f) (h0 : g j 3 = 2) : cI l yX9_sell cX9_sell 3 (some .int) (rl f) X [.ref (B 0), .int (nI j)] (wM X B n wm dy tl g hs rest false t) (fun v w' => v = sellV dy (g j) ∧ w' = wM X B n wm dy (tl + sellV dy (g j)) (va_up g j (va_up (g j) 3 3)) hs rest false t) := by
  refine met_start (by decide) (Nat.le_of_ble_eq_true rfl) ?_
  intro p e s m below meth c ls fx hS hl
  obtain ⟨hx, hb, hr, hml, hown, hG, hlk, hF, hz, hnm⟩ := fx
  have hown : s.vm.findClass RX9 = some m.cls := hown
  have hl : lv_has ls 3 [(0, .ref (B 0)), (1, .int (nI j))] := hl
  have hj4 : j < 40 := by omega
  refine lv_aload_n hx hb dX9_sell_0 rfl (lv_at hl 0 rfl) ?_
  refine lv_iload_n hx hb dX9_sell_1 rfl (lv_at hl 1 rfl) ?_
  refine m_ci (m_runV (n := 1) (rest := []) ⟨hx, hb, hml, hown, hG⟩ (M_isBatch l X B n wm dy tl g hs rest false t (nI j) 1 (by decide)) kw_528 kw_530 kw_6 kw_20 kw_531 (by decide +kernel) (rl_ok (by omega) (by decide)) hF hz hS (q0 := 0) rfl rfl rfl hl.1 rfl (Nat.le_of_ble_eq_true rfl) dX9_sell_2 ⟨Nat.zero_le _, Nat.zero_le _⟩) hS (fun r_1 w1 H locs hw1 hS => ?_)
  obtain ⟨rfl, rfl⟩ := hw1
  refine lv_if_ne (tgt := 11) hx hb dX9_sell_5 (by decide) (fun c_2 => ?_) (fun c_2 => absurd c_2 (by rw [isB_yes hj hn]; decide))
  refine lv_aload_n hx hb dX9_sell_11 rfl (lv_at hl 0 rfl) ?_
  refine m_get (v := .ref (B 3)) hx hb hG hown hF hS (0) rfl rfl iG_9 3 (by decide) kw_474 (fun _ h9 => h9) rfl dX9_sell_12 ?_
  refine lv_iload_n hx hb dX9_sell_15 rfl (lv_at hl 1 rfl) ?_
  refine m_ialdv (v := g j 3) hx hb hF hS (3) rfl (j) rfl (hj4) (by decide) rfl dX9_sell_16 ?_
  refine lv_iconst (v := 2) hx hb dX9_sell_17 (by decide) ?_
  refine lv_icmp_eq (tgt := 24) hx hb dX9_sell_18 (by decide) (fun c_3 => ?_) (fun c_3 => absurd (h0) c_3)
  refine lv_aload_n hx hb dX9_sell_24 rfl (lv_at hl 0 rfl) ?_
  refine lv_iload_n hx hb dX9_sell_25 rfl (lv_at hl 1 rfl) ?_
  refine m_ci (m_runV (n := 1) (rest := []) ⟨hx, hb, hml, hown, hG⟩ (M_price l X B n wm dy tl g hs rest false t j (kd (g j)) 3 hj4 (hk0 j hj) (hkd j hj) (by decide) tR.f) kw_552 kw_554 kw_12 kw_20 kw_555 (by decide +kernel) (rl_ok (by omega) (by decide)) hF hz hS (q0 := 0) rfl rfl rfl hl.1 rfl (Nat.le_of_ble_eq_true rfl) dX9_sell_26 ⟨Nat.zero_le _, Nat.zero_le _⟩) hS (fun r_4 w2 H locs hw2 hS => ?_)
  obtain ⟨rfl, rfl⟩ := hw2
  refine lv_aload_n hx hb dX9_sell_29 rfl (lv_at hl 0 rfl) ?_
  refine m_get (v := .ref (B 1)) hx hb hG hown hF hS (0) rfl rfl iG_9 1 (by decide) kw_472 (fun _ h9 => h9) rfl dX9_sell_30 ?_
  refine lv_iload_n hx hb dX9_sell_33 rfl (lv_at hl 1 rfl) ?_
  refine m_ialdv (v := nI (kd (g j))) hx hb hF hS (1) rfl (j) rfl (hj4) (by decide) (hk0 j hj) dX9_sell_34 ?_
  refine m_ci (m_runS (n := 1) (rest := [.int (priceV (kd (g j)) (g j 1))]) ⟨hx, hb, hml, hown, hG⟩ (M_isGlazed l X _ (nI (kd (g j))) 0) kw_563 kw_564 kw_20 kw_565 (by decide +kernel) (rl_ok (by omega) (by decide)) hF hz hS rfl hl.1 rfl (Nat.le_of_ble_eq_true rfl) dX9_sell_35 ⟨Nat.zero_le _, Nat.zero_le _⟩) hS (fun r_5 w3 H locs hw3 hS => ?_)
  obtain ⟨rfl, rfl⟩ := hw3
  by_cases h5 : 5 ≤ kd (g j)
  · refine lv_if_eq (tgt := 49) hx hb dX9_sell_38 (by decide) (fun c_6 => absurd c_6 (by rw [glaz_yes h5 (hkd j hj)]; decide)) (fun c_6 => ?_)
    refine lv_aload_n hx hb dX9_sell_41 rfl (lv_at hl 0 rfl) ?_
    refine lv_iload_n hx hb dX9_sell_42 rfl (lv_at hl 1 rfl) ?_
    refine m_ci (m_runV (n := 1) (rest := [.int (priceV (kd (g j)) (g j 1))]) ⟨hx, hb, hml, hown, hG⟩ (M_glaze l X B n wm dy tl g hs rest false t j (kd (g j)) 4 hj4 (hk0 j hj) h5 (hkd j hj) (by decide) tR.f) kw_566 kw_568 kw_14 kw_20 kw_569 (by decide +kernel) (rl_ok (by omega) (by decide)) hF hz hS (q0 := 0) rfl rfl rfl hl.1 rfl (Nat.le_of_ble_eq_true rfl) dX9_sell_43 ⟨Nat.zero_le _, Nat.zero_le _⟩) hS (fun r_7 w4 H locs hw4 hS => ?_)
    obtain ⟨rfl, rfl⟩ := hw4
    refine lv_goto (tgt := 50) hx hb dX9_sell_46 (by decide) ?_
    refine lv_iadd hx hb dX9_sell_50 ?_
    rw [show priceV (kd (g j)) (g j 1) + glazeV (kd (g j)) (g j 1) = worth (g j) from by rw [worth, if_pos h5]]
    refine lv_aload_n hx hb dX9_sell_51 rfl (lv_at hl 0 rfl) ?_
    refine m_get (v := .int dy) hx hb hG hown hF hS (0) rfl rfl iG_9 10 (by decide) kw_481 (fun _ h9 => h9) rfl dX9_sell_52 ?_
    refine lv_aload_n hx hb dX9_sell_55 rfl (lv_at hl 0 rfl) ?_
    refine m_get (v := .ref (B 7)) hx hb hG hown hF hS (0) rfl rfl iG_9 7 (by decide) kw_478 (fun _ h9 => h9) rfl dX9_sell_56 ?_
    refine lv_iload_n hx hb dX9_sell_59 rfl (lv_at hl 1 rfl) ?_
    refine m_ialdv (v := g j 7) hx hb hF hS (7) rfl (j) rfl (hj4) (by decide) rfl dX9_sell_60 ?_
    refine lv_isub hx hb dX9_sell_61 ?_
    refine lv_isub hx hb dX9_sell_62 ?_
    refine lv_istore_n (lv' := [(2, .int ((worth (g j)) - (dy - (g j 7)))), (0, .ref (B 0)), (1, .int (nI j))]) hx hb dX9_sell_63 rfl hl (by decide) rfl (fun ls hl => ?_)
    refine lv_iload_n hx hb dX9_sell_64 rfl (lv_at hl 0 rfl) ?_
    refine lv_iconst (v := 1) hx hb dX9_sell_65 (by decide) ?_
    refine lv_icmp_ge (tgt := 73) hx hb dX9_sell_66 (by decide) (fun c_8 => ?_) (fun c_8 => ?_)
    · refine lv_iload_n hx hb dX9_sell_73 rfl (lv_at hl 0 rfl) ?_
      refine lv_istore_n (lv' := [(2, .int ((worth (g j)) - (dy - (g j 7)))), (0, .ref (B 0)), (1, .int (nI j))]) hx hb dX9_sell_74 rfl hl (by decide) rfl (fun ls hl => ?_)
      refine lv_aload_n hx hb dX9_sell_75 rfl (lv_at hl 1 rfl) ?_
      refine lv_dup hx hb dX9_sell_76 rfl ?_
      refine m_get (v := .int tl) hx hb hG hown hF hS (0) rfl rfl iG_9 11 (by decide) kw_482 (fun _ h9 => h9) rfl dX9_sell_77 ?_
      refine lv_iload_n hx hb dX9_sell_80 rfl (lv_at hl 0 rfl) ?_
      refine lv_iadd hx hb dX9_sell_81 ?_
      refine m_put hx hb hG hown hF hS (0) rfl rfl iG_9 tyX9_ok nmX9 11 (by decide) kw_482 (fun _ h9 => h9) rfl rfl rfl (Nat.le_of_ble_eq_true rfl) (wM X B n wm dy (tl + ((worth (g j)) - (dy - (g j 7)))) g hs rest false t) rfl dX9_sell_82 (fun H locs hS => ?_)
      refine lv_aload_n hx hb dX9_sell_85 rfl (lv_at hl 1 rfl) ?_
      refine m_get (v := .ref (B 3)) hx hb hG hown hF hS (0) rfl rfl iG_9 3 (by decide) kw_474 (fun _ h9 => h9) rfl dX9_sell_86 ?_
      refine lv_iload_n hx hb dX9_sell_89 rfl (lv_at hl 2 rfl) ?_
      refine lv_iconst (v := 3) hx hb dX9_sell_90 (by decide) ?_
      refine m_iast hx hb hF hS (3) rfl (j) rfl (hj4) (by decide) (wM X B n wm dy (tl + ((worth (g j)) - (dy - (g j 7)))) (va_up g j (va_up (g j) 3 3)) hs rest false t) (wM_s3) dX9_sell_91 (fun H locs hS => ?_)
      refine lv_iload_n hx hb dX9_sell_92 rfl (lv_at hl 0 rfl) ?_
      exact m_iret hx hb hr hlk hS (⟨(sel_ge c_8).symm, by rw [show sellV dy (g j) = _ from ((sel_ge c_8).symm).symm]⟩) (Nat.le_refl 0) (Nat.le_refl 0) dX9_sell_93
    · refine lv_iconst (v := 1) hx hb dX9_sell_69 (by decide) ?_
      refine lv_goto (tgt := 74) hx hb dX9_sell_70 (by decide) ?_
      refine lv_istore_n (lv' := [(2, .int 1), (0, .ref (B 0)), (1, .int (nI j))]) hx hb dX9_sell_74 rfl hl (by decide) rfl (fun ls hl => ?_)
      refine lv_aload_n hx hb dX9_sell_75 rfl (lv_at hl 1 rfl) ?_
      refine lv_dup hx hb dX9_sell_76 rfl ?_
      refine m_get (v := .int tl) hx hb hG hown hF hS (0) rfl rfl iG_9 11 (by decide) kw_482 (fun _ h9 => h9) rfl dX9_sell_77 ?_
      refine lv_iload_n hx hb dX9_sell_80 rfl (lv_at hl 0 rfl) ?_
      refine lv_iadd hx hb dX9_sell_81 ?_
      refine m_put hx hb hG hown hF hS (0) rfl rfl iG_9 tyX9_ok nmX9 11 (by decide) kw_482 (fun _ h9 => h9) rfl rfl rfl (Nat.le_of_ble_eq_true rfl) (wM X B n wm dy (tl + 1) g hs rest false t) rfl dX9_sell_82 (fun H locs hS => ?_)
      refine lv_aload_n hx hb dX9_sell_85 rfl (lv_at hl 1 rfl) ?_
      refine m_get (v := .ref (B 3)) hx hb hG hown hF hS (0) rfl rfl iG_9 3 (by decide) kw_474 (fun _ h9 => h9) rfl dX9_sell_86 ?_
      refine lv_iload_n hx hb dX9_sell_89 rfl (lv_at hl 2 rfl) ?_
      refine lv_iconst (v := 3) hx hb dX9_sell_90 (by decide) ?_
      refine m_iast hx hb hF hS (3) rfl (j) rfl (hj4) (by decide) (wM X B n wm dy (tl + 1) (va_up g j (va_up (g j) 3 3)) hs rest false t) (wM_s3) dX9_sell_91 (fun H locs hS => ?_)
      refine lv_iload_n hx hb dX9_sell_92 rfl (lv_at hl 0 rfl) ?_
      exact m_iret hx hb hr hlk hS (⟨(sel_lt c_8).symm, by rw [show sellV dy (g j) = _ from ((sel_lt c_8).symm).symm]⟩) (Nat.le_refl 0) (Nat.le_refl 0) dX9_sell_93
  · refine lv_if_eq (tgt := 49) hx hb dX9_sell_38 (by decide) (fun c_6 => ?_) (fun c_6 => absurd (glaz_no h5) c_6)
    refine lv_iconst (v := 0) hx hb dX9_sell_49 (by decide) ?_
    refine lv_iadd hx hb dX9_sell_50 ?_
    rw [show priceV (kd (g j)) (g j 1) + 0 = worth (g j) from by rw [worth, if_neg h5, Int32.add_zero]]
    refine lv_aload_n hx hb dX9_sell_51 rfl (lv_at hl 0 rfl) ?_
    refine m_get (v := .int dy) hx hb hG hown hF hS (0) rfl rfl iG_9 10 (by decide) kw_481 (fun _ h9 => h9) rfl dX9_sell_52 ?_
    refine lv_aload_n hx hb dX9_sell_55 rfl (lv_at hl 0 rfl) ?_
    refine m_get (v := .ref (B 7)) hx hb hG hown hF hS (0) rfl rfl iG_9 7 (by decide) kw_478 (fun _ h9 => h9) rfl dX9_sell_56 ?_
    refine lv_iload_n hx hb dX9_sell_59 rfl (lv_at hl 1 rfl) ?_
    refine m_ialdv (v := g j 7) hx hb hF hS (7) rfl (j) rfl (hj4) (by decide) rfl dX9_sell_60 ?_
    refine lv_isub hx hb dX9_sell_61 ?_
    refine lv_isub hx hb dX9_sell_62 ?_
    refine lv_istore_n (lv' := [(2, .int ((worth (g j)) - (dy - (g j 7)))), (0, .ref (B 0)), (1, .int (nI j))]) hx hb dX9_sell_63 rfl hl (by decide) rfl (fun ls hl => ?_)
    refine lv_iload_n hx hb dX9_sell_64 rfl (lv_at hl 0 rfl) ?_
    refine lv_iconst (v := 1) hx hb dX9_sell_65 (by decide) ?_
    refine lv_icmp_ge (tgt := 73) hx hb dX9_sell_66 (by decide) (fun c_7 => ?_) (fun c_7 => ?_)
    · refine lv_iload_n hx hb dX9_sell_73 rfl (lv_at hl 0 rfl) ?_
      refine lv_istore_n (lv' := [(2, .int ((worth (g j)) - (dy - (g j 7)))), (0, .ref (B 0)), (1, .int (nI j))]) hx hb dX9_sell_74 rfl hl (by decide) rfl (fun ls hl => ?_)
      refine lv_aload_n hx hb dX9_sell_75 rfl (lv_at hl 1 rfl) ?_
      refine lv_dup hx hb dX9_sell_76 rfl ?_
      refine m_get (v := .int tl) hx hb hG hown hF hS (0) rfl rfl iG_9 11 (by decide) kw_482 (fun _ h9 => h9) rfl dX9_sell_77 ?_
      refine lv_iload_n hx hb dX9_sell_80 rfl (lv_at hl 0 rfl) ?_
      refine lv_iadd hx hb dX9_sell_81 ?_
      refine m_put hx hb hG hown hF hS (0) rfl rfl iG_9 tyX9_ok nmX9 11 (by decide) kw_482 (fun _ h9 => h9) rfl rfl rfl (Nat.le_of_ble_eq_true rfl) (wM X B n wm dy (tl + ((worth (g j)) - (dy - (g j 7)))) g hs rest false t) rfl dX9_sell_82 (fun H locs hS => ?_)
      refine lv_aload_n hx hb dX9_sell_85 rfl (lv_at hl 1 rfl) ?_
      refine m_get (v := .ref (B 3)) hx hb hG hown hF hS (0) rfl rfl iG_9 3 (by decide) kw_474 (fun _ h9 => h9) rfl dX9_sell_86 ?_
      refine lv_iload_n hx hb dX9_sell_89 rfl (lv_at hl 2 rfl) ?_
      refine lv_iconst (v := 3) hx hb dX9_sell_90 (by decide) ?_
      refine m_iast hx hb hF hS (3) rfl (j) rfl (hj4) (by decide) (wM X B n wm dy (tl + ((worth (g j)) - (dy - (g j 7)))) (va_up g j (va_up (g j) 3 3)) hs rest false t) (wM_s3) dX9_sell_91 (fun H locs hS => ?_)
      refine lv_iload_n hx hb dX9_sell_92 rfl (lv_at hl 0 rfl) ?_
      exact m_iret hx hb hr hlk hS (⟨(sel_ge c_7).symm, by rw [show sellV dy (g j) = _ from ((sel_ge c_7).symm).symm]⟩) (Nat.le_refl 0) (Nat.le_refl 0) dX9_sell_93
    · refine lv_iconst (v := 1) hx hb dX9_sell_69 (by decide) ?_
      refine lv_goto (tgt := 74) hx hb dX9_sell_70 (by decide) ?_
      refine lv_istore_n (lv' := [(2, .int 1), (0, .ref (B 0)), (1, .int (nI j))]) hx hb dX9_sell_74 rfl hl (by decide) rfl (fun ls hl => ?_)
      refine lv_aload_n hx hb dX9_sell_75 rfl (lv_at hl 1 rfl) ?_
      refine lv_dup hx hb dX9_sell_76 rfl ?_
      refine m_get (v := .int tl) hx hb hG hown hF hS (0) rfl rfl iG_9 11 (by decide) kw_482 (fun _ h9 => h9) rfl dX9_sell_77 ?_
      refine lv_iload_n hx hb dX9_sell_80 rfl (lv_at hl 0 rfl) ?_
      refine lv_iadd hx hb dX9_sell_81 ?_
      refine m_put hx hb hG hown hF hS (0) rfl rfl iG_9 tyX9_ok nmX9 11 (by decide) kw_482 (fun _ h9 => h9) rfl rfl rfl (Nat.le_of_ble_eq_true rfl) (wM X B n wm dy (tl + 1) g hs rest false t) rfl dX9_sell_82 (fun H locs hS => ?_)
      refine lv_aload_n hx hb dX9_sell_85 rfl (lv_at hl 1 rfl) ?_
      refine m_get (v := .ref (B 3)) hx hb hG hown hF hS (0) rfl rfl iG_9 3 (by decide) kw_474 (fun _ h9 => h9) rfl dX9_sell_86 ?_
      refine lv_iload_n hx hb dX9_sell_89 rfl (lv_at hl 2 rfl) ?_
      refine lv_iconst (v := 3) hx hb dX9_sell_90 (by decide) ?_
      refine m_iast hx hb hF hS (3) rfl (j) rfl (hj4) (by decide) (wM X B n wm dy (tl + 1) (va_up g j (va_up (g j) 3 3)) hs rest false t) (wM_s3) dX9_sell_91 (fun H locs hS => ?_)
      refine lv_iload_n hx hb dX9_sell_92 rfl (lv_at hl 0 rfl) ?_
      exact m_iret hx hb hr hlk hS (⟨(sel_lt c_7).symm, by rw [show sellV dy (g j) = _ from ((sel_lt c_7).symm).symm]⟩) (Nat.le_refl 0) (Nat.le_refl 0) dX9_sell_93
set_option maxHeartbeats 4000000 in
set_option maxRecDepth 100000 in
theorem M_batch_bad (l : Launch) (X : Cx) (B : Nat → Nat) (n : Nat) (wm dy tl : Int32) (g : Nat → Rc) (hs : Nat → Int32) (rest : va_W) (t : Tr) (k ma : Int32) (f : Nat) (hf : 1 ≤ f) (h0 : inB k 0 6 = 0 ∨ inB ma 1 500 = 0) : cI l yX9_batch cX9_batch 3 (some .int) (rl f) X [.ref (B 0), .int k, .int ma] (wM X B n wm dy tl g hs rest false t) (fun v w => v = -2 ∧ w = wM X B n wm dy tl g hs rest false t) := by
  refine met_start (by decide) (Nat.le_of_ble_eq_true rfl) ?_
  intro p e s m below meth c ls fx hS hl
  obtain ⟨hx, hb, hr, hml, hown, hG, hlk, hF, hz, hnm⟩ := fx
  have hown : s.vm.findClass RX9 = some m.cls := hown
  have hl : lv_has ls 3 [(0, .ref (B 0)), (1, .int k), (2, .int ma)] := hl
  refine lv_iload_n hx hb dX9_batch_0 rfl (lv_at hl 1 rfl) ?_
  refine lv_iconst (v := 0) hx hb dX9_batch_1 (by decide) ?_
  refine lv_bipush (v := 6) hx hb dX9_batch_2 (by decide) ?_
  refine m_ci (m_runS (n := 3) (rest := []) ⟨hx, hb, hml, hown, hG⟩ (c_in l X _ k 0 6 0) kw_521 kw_522 kw_20 kw_523 (by decide +kernel) (rl_ok (by omega) (by decide)) hF hz hS rfl hl.1 rfl (Nat.le_of_ble_eq_true rfl) dX9_batch_4 ⟨Nat.zero_le _, Nat.zero_le _⟩) hS (fun r_1 w1 H locs hw1 hS => ?_)
  obtain ⟨rfl, rfl⟩ := hw1
  refine lv_if_eq (tgt := 21) hx hb dX9_batch_7 (by decide) (fun c_2 => ?_) (fun c_2 => ?_)
  · refine lv_bipush (v := -2) hx hb dX9_batch_21 (by decide) ?_
    exact m_iret hx hb hr hlk hS (⟨rfl, rfl⟩) (Nat.le_refl 0) (Nat.le_refl 0) dX9_batch_23
  · refine lv_iload_n hx hb dX9_batch_10 rfl (lv_at hl 2 rfl) ?_
    refine lv_iconst (v := 1) hx hb dX9_batch_11 (by decide) ?_
    refine lv_sipush (v := 500) hx hb dX9_batch_12 (by decide) ?_
    refine m_ci (m_runS (n := 3) (rest := []) ⟨hx, hb, hml, hown, hG⟩ (c_in l X _ ma 1 500 0) kw_521 kw_522 kw_20 kw_523 (by decide +kernel) (rl_ok (by omega) (by decide)) hF hz hS rfl hl.1 rfl (Nat.le_of_ble_eq_true rfl) dX9_batch_15 ⟨Nat.zero_le _, Nat.zero_le _⟩) hS (fun r_3 w2 H locs hw2 hS => ?_)
    obtain ⟨rfl, rfl⟩ := hw2
    refine lv_if_ne (tgt := 24) hx hb dX9_batch_18 (by decide) (fun c_4 => absurd (h0.resolve_left c_2) c_4) (fun c_4 => ?_)
    refine lv_bipush (v := -2) hx hb dX9_batch_21 (by decide) ?_
    exact m_iret hx hb hr hlk hS (⟨rfl, rfl⟩) (Nat.le_refl 0) (Nat.le_refl 0) dX9_batch_23
set_option maxHeartbeats 4000000 in
set_option maxRecDepth 100000 in
theorem M_batch_full (l : Launch) (X : Cx) (B : Nat → Nat) (n : Nat) (wm dy tl : Int32) (g : Nat → Rc) (hs : Nat → Int32) (rest : va_W) (t : Tr) (k ma : Int32) (f : Nat) (hf : 1 ≤ f) (h0 : ¬ inB k 0 6 = 0) (h1 : ¬ inB ma 1 500 = 0) (h2 : n = 40) : cI l yX9_batch cX9_batch 3 (some .int) (rl f) X [.ref (B 0), .int k, .int ma] (wM X B n wm dy tl g hs rest false t) (fun v w => v = -4 ∧ w = wM X B n wm dy tl g hs rest false t) := by
  refine met_start (by decide) (Nat.le_of_ble_eq_true rfl) ?_
  intro p e s m below meth c ls fx hS hl
  obtain ⟨hx, hb, hr, hml, hown, hG, hlk, hF, hz, hnm⟩ := fx
  have hown : s.vm.findClass RX9 = some m.cls := hown
  have hl : lv_has ls 3 [(0, .ref (B 0)), (1, .int k), (2, .int ma)] := hl
  refine lv_iload_n hx hb dX9_batch_0 rfl (lv_at hl 1 rfl) ?_
  refine lv_iconst (v := 0) hx hb dX9_batch_1 (by decide) ?_
  refine lv_bipush (v := 6) hx hb dX9_batch_2 (by decide) ?_
  refine m_ci (m_runS (n := 3) (rest := []) ⟨hx, hb, hml, hown, hG⟩ (c_in l X _ k 0 6 0) kw_521 kw_522 kw_20 kw_523 (by decide +kernel) (rl_ok (by omega) (by decide)) hF hz hS rfl hl.1 rfl (Nat.le_of_ble_eq_true rfl) dX9_batch_4 ⟨Nat.zero_le _, Nat.zero_le _⟩) hS (fun r_1 w1 H locs hw1 hS => ?_)
  obtain ⟨rfl, rfl⟩ := hw1
  refine lv_if_eq (tgt := 21) hx hb dX9_batch_7 (by decide) (fun c_2 => absurd c_2 (h0)) (fun c_2 => ?_)
  refine lv_iload_n hx hb dX9_batch_10 rfl (lv_at hl 2 rfl) ?_
  refine lv_iconst (v := 1) hx hb dX9_batch_11 (by decide) ?_
  refine lv_sipush (v := 500) hx hb dX9_batch_12 (by decide) ?_
  refine m_ci (m_runS (n := 3) (rest := []) ⟨hx, hb, hml, hown, hG⟩ (c_in l X _ ma 1 500 0) kw_521 kw_522 kw_20 kw_523 (by decide +kernel) (rl_ok (by omega) (by decide)) hF hz hS rfl hl.1 rfl (Nat.le_of_ble_eq_true rfl) dX9_batch_15 ⟨Nat.zero_le _, Nat.zero_le _⟩) hS (fun r_3 w2 H locs hw2 hS => ?_)
  obtain ⟨rfl, rfl⟩ := hw2
  refine lv_if_ne (tgt := 24) hx hb dX9_batch_18 (by decide) (fun c_4 => ?_) (fun c_4 => absurd c_4 (h1))
  refine lv_aload_n hx hb dX9_batch_24 rfl (lv_at hl 0 rfl) ?_
  refine m_get (v := .int (nI n)) hx hb hG hown hF hS (0) rfl rfl iG_9 0 (by decide) kw_471 (fun _ h9 => h9) rfl dX9_batch_25 ?_
  refine lv_bipush (v := 40) hx hb dX9_batch_28 (by decide) ?_
  refine lv_icmp_ne (tgt := 36) hx hb dX9_batch_30 (by decide) (fun c_5 => absurd (by rw [h2]; rfl) c_5) (fun c_5 => ?_)
  refine lv_bipush (v := -4) hx hb dX9_batch_33 (by decide) ?_
  exact m_iret hx hb hr hlk hS (⟨rfl, rfl⟩) (Nat.le_refl 0) (Nat.le_refl 0) dX9_batch_35
set_option maxHeartbeats 4000000 in
set_option maxRecDepth 100000 in
theorem M_batch (l : Launch) (X : Cx) (B : Nat → Nat) (n : Nat) (wm dy tl : Int32) (g : Nat → Rc) (hs : Nat → Int32) (rest : va_W) (t : Tr) (k ma : Int32) (f : Nat) (hf : 1 ≤ f) (h0 : ¬ inB k 0 6 = 0) (h1 : ¬ inB ma 1 500 = 0) (h2 : n < 40) : cI l yX9_batch cX9_batch 3 (some .int) (rl f) X [.ref (B 0), .int k, .int ma] (wM X B n wm dy tl g hs rest false t) (fun v w => v = nI n ∧ w = wM X B (n + 1) wm dy tl (va_up g n (va_up (va_up (va_up (g n) 0 k) 1 ma) 3 0)) hs rest false t) := by
  refine met_start (by decide) (Nat.le_of_ble_eq_true rfl) ?_
  intro p e s m below meth c ls fx hS hl
  obtain ⟨hx, hb, hr, hml, hown, hG, hlk, hF, hz, hnm⟩ := fx
  have hown : s.vm.findClass RX9 = some m.cls := hown
  have hl : lv_has ls 3 [(0, .ref (B 0)), (1, .int k), (2, .int ma)] := hl
  refine lv_iload_n hx hb dX9_batch_0 rfl (lv_at hl 1 rfl) ?_
  refine lv_iconst (v := 0) hx hb dX9_batch_1 (by decide) ?_
  refine lv_bipush (v := 6) hx hb dX9_batch_2 (by decide) ?_
  refine m_ci (m_runS (n := 3) (rest := []) ⟨hx, hb, hml, hown, hG⟩ (c_in l X _ k 0 6 0) kw_521 kw_522 kw_20 kw_523 (by decide +kernel) (rl_ok (by omega) (by decide)) hF hz hS rfl hl.1 rfl (Nat.le_of_ble_eq_true rfl) dX9_batch_4 ⟨Nat.zero_le _, Nat.zero_le _⟩) hS (fun r_1 w1 H locs hw1 hS => ?_)
  obtain ⟨rfl, rfl⟩ := hw1
  refine lv_if_eq (tgt := 21) hx hb dX9_batch_7 (by decide) (fun c_2 => absurd c_2 (h0)) (fun c_2 => ?_)
  refine lv_iload_n hx hb dX9_batch_10 rfl (lv_at hl 2 rfl) ?_
  refine lv_iconst (v := 1) hx hb dX9_batch_11 (by decide) ?_
  refine lv_sipush (v := 500) hx hb dX9_batch_12 (by decide) ?_
  refine m_ci (m_runS (n := 3) (rest := []) ⟨hx, hb, hml, hown, hG⟩ (c_in l X _ ma 1 500 0) kw_521 kw_522 kw_20 kw_523 (by decide +kernel) (rl_ok (by omega) (by decide)) hF hz hS rfl hl.1 rfl (Nat.le_of_ble_eq_true rfl) dX9_batch_15 ⟨Nat.zero_le _, Nat.zero_le _⟩) hS (fun r_3 w2 H locs hw2 hS => ?_)
  obtain ⟨rfl, rfl⟩ := hw2
  refine lv_if_ne (tgt := 24) hx hb dX9_batch_18 (by decide) (fun c_4 => ?_) (fun c_4 => absurd c_4 (h1))
  refine lv_aload_n hx hb dX9_batch_24 rfl (lv_at hl 0 rfl) ?_
  refine m_get (v := .int (nI n)) hx hb hG hown hF hS (0) rfl rfl iG_9 0 (by decide) kw_471 (fun _ h9 => h9) rfl dX9_batch_25 ?_
  refine lv_bipush (v := 40) hx hb dX9_batch_28 (by decide) ?_
  refine lv_icmp_ne (tgt := 36) hx hb dX9_batch_30 (by decide) (fun c_5 => ?_) (fun c_5 => absurd c_5 (by rw [show (40 : Int32) = nI 40 from rfl, nI_eq (by omega) (by decide)]; omega))
  refine lv_aload_n hx hb dX9_batch_36 rfl (lv_at hl 0 rfl) ?_
  refine m_get (v := .ref (B 1)) hx hb hG hown hF hS (0) rfl rfl iG_9 1 (by decide) kw_472 (fun _ h9 => h9) rfl dX9_batch_37 ?_
  refine lv_aload_n hx hb dX9_batch_40 rfl (lv_at hl 0 rfl) ?_
  refine m_get (v := .int (nI n)) hx hb hG hown hF hS (0) rfl rfl iG_9 0 (by decide) kw_471 (fun _ h9 => h9) rfl dX9_batch_41 ?_
  refine lv_iload_n hx hb dX9_batch_44 rfl (lv_at hl 1 rfl) ?_
  refine m_iast hx hb hF hS (1) rfl (n) rfl (h2) (by decide) (wM X B n wm dy tl (va_up g n (va_up (g n) 0 k)) hs rest false t) (wM_s0) dX9_batch_45 (fun H locs hS => ?_)
  refine lv_aload_n hx hb dX9_batch_46 rfl (lv_at hl 0 rfl) ?_
  refine m_get (v := .ref (B 2)) hx hb hG hown hF hS (0) rfl rfl iG_9 2 (by decide) kw_473 (fun _ h9 => h9) rfl dX9_batch_47 ?_
  refine lv_aload_n hx hb dX9_batch_50 rfl (lv_at hl 0 rfl) ?_
  refine m_get (v := .int (nI n)) hx hb hG hown hF hS (0) rfl rfl iG_9 0 (by decide) kw_471 (fun _ h9 => h9) rfl dX9_batch_51 ?_
  refine lv_iload_n hx hb dX9_batch_54 rfl (lv_at hl 2 rfl) ?_
  refine m_iast hx hb hF hS (2) rfl (n) rfl (h2) (by decide) (wM X B n wm dy tl (va_up g n (va_up (va_up (g n) 0 k) 1 ma)) hs rest false t) (by rw [wM_s1, va_up_up, va_up_self]) dX9_batch_55 (fun H locs hS => ?_)
  refine lv_aload_n hx hb dX9_batch_56 rfl (lv_at hl 0 rfl) ?_
  refine m_get (v := .ref (B 3)) hx hb hG hown hF hS (0) rfl rfl iG_9 3 (by decide) kw_474 (fun _ h9 => h9) rfl dX9_batch_57 ?_
  refine lv_aload_n hx hb dX9_batch_60 rfl (lv_at hl 0 rfl) ?_
  refine m_get (v := .int (nI n)) hx hb hG hown hF hS (0) rfl rfl iG_9 0 (by decide) kw_471 (fun _ h9 => h9) rfl dX9_batch_61 ?_
  refine lv_iconst (v := 0) hx hb dX9_batch_64 (by decide) ?_
  refine m_iast hx hb hF hS (3) rfl (n) rfl (h2) (by decide) (wM X B n wm dy tl (va_up g n (va_up (va_up (va_up (g n) 0 k) 1 ma) 3 0)) hs rest false t) (by rw [wM_s3, va_up_up, va_up_self]) dX9_batch_65 (fun H locs hS => ?_)
  refine lv_aload_n hx hb dX9_batch_66 rfl (lv_at hl 0 rfl) ?_
  refine lv_dup hx hb dX9_batch_67 rfl ?_
  refine m_get (v := .int (nI n)) hx hb hG hown hF hS (0) rfl rfl iG_9 0 (by decide) kw_471 (fun _ h9 => h9) rfl dX9_batch_68 ?_
  refine lv_iconst (v := 1) hx hb dX9_batch_71 (by decide) ?_
  refine lv_iadd hx hb dX9_batch_72 ?_
  refine m_put hx hb hG hown hF hS (0) rfl rfl iG_9 tyX9_ok nmX9 0 (by decide) kw_471 (fun _ h9 => h9) rfl rfl rfl (Nat.le_of_ble_eq_true rfl) (wM X B (n + 1) wm dy tl (va_up g n (va_up (va_up (va_up (g n) 0 k) 1 ma) 3 0)) hs rest false t) (by rw [nI_1]; rfl) dX9_batch_73 (fun H locs hS => ?_)
  refine lv_aload_n hx hb dX9_batch_76 rfl (lv_at hl 0 rfl) ?_
  refine m_get (v := .int (nI (n + 1))) hx hb hG hown hF hS (0) rfl rfl iG_9 0 (by decide) kw_471 (fun _ h9 => h9) rfl dX9_batch_77 ?_
  refine lv_iconst (v := 1) hx hb dX9_batch_80 (by decide) ?_
  refine lv_isub hx hb dX9_batch_81 ?_
  exact m_iret hx hb hr hlk hS (⟨nI_pred n, rfl⟩) (Nat.le_refl 0) (Nat.le_refl 0) dX9_batch_82
