theorem sf_Black {args : Array Value} {s : State} (hG : ∀ w ∈ G, w.before args s = true) : ∀ x, s.fieldFound? "DoughRoom$Dough" "trace" "LDoughRoom$Trace;" = some x → s.fieldFound? "DoughRoom$Black" "trace" "LDoughRoom$Trace;" = some x := u_same (hG _ kw_104)
theorem sf_Sour {args : Array Value} {s : State} (hG : ∀ w ∈ G, w.before args s = true) : ∀ x, s.fieldFound? "DoughRoom$Dough" "trace" "LDoughRoom$Trace;" = some x → s.fieldFound? "DoughRoom$Sour" "trace" "LDoughRoom$Trace;" = some x := u_same (hG _ kw_106)
theorem sf_Butter {args : Array Value} {s : State} (hG : ∀ w ∈ G, w.before args s = true) : ∀ x, s.fieldFound? "DoughRoom$Dough" "trace" "LDoughRoom$Trace;" = some x → s.fieldFound? "DoughRoom$Butter" "trace" "LDoughRoom$Trace;" = some x := u_same (hG _ kw_108)
theorem sf_Rye {args : Array Value} {s : State} (hG : ∀ w ∈ G, w.before args s = true) : ∀ x, s.fieldFound? "DoughRoom$Dough" "trace" "LDoughRoom$Trace;" = some x → s.fieldFound? "DoughRoom$Rye" "trace" "LDoughRoom$Trace;" = some x := u_same (hG _ kw_110)
theorem sf_Yeast {args : Array Value} {s : State} (hG : ∀ w ∈ G, w.before args s = true) : ∀ x, s.fieldFound? "DoughRoom$Dough" "trace" "LDoughRoom$Trace;" = some x → s.fieldFound? "DoughRoom$Yeast" "trace" "LDoughRoom$Trace;" = some x := u_same (hG _ kw_112)
theorem sf_Sweet {args : Array Value} {s : State} (hG : ∀ w ∈ G, w.before args s = true) : ∀ x, s.fieldFound? "DoughRoom$Dough" "trace" "LDoughRoom$Trace;" = some x → s.fieldFound? "DoughRoom$Sweet" "trace" "LDoughRoom$Trace;" = some x := u_same (hG _ kw_114)
theorem sub_self {s : State} {C : String} : ∀ ps pd : ClassId, s.vm.findClass C = some ps → s.vm.findClass C = some pd → s.vm.isSubclass ps pd = true := fun ps pd h1 h2 => by
  cases h1.symm.trans h2
  simp [Vm.isSubclass, Vm.isSubclassAux]
set_option maxHeartbeats 4000000 in
set_option maxRecDepth 100000 in
theorem c_leave (l : Launch) (X : Cx) (K : KT) (r : Bool) (t : Tr) (x : Int32) (f : Nat) (ht : tR r 1 t) : cV l yX6_leave cX6_leave 2 (rl f) X [.ref (kA K 3), .int x] (wT X K r t) (fun w => w = wT X K r (te r [x] t)) := by
  refine met_start (by decide) (Nat.le_of_ble_eq_true rfl) ?_
  intro p e s m below meth c ls fx hS hl
  obtain ⟨hx, hb, hr, hml, hown, hG, hlk, hF, hz, hnm⟩ := fx
  have hown : s.vm.findClass RX6 = some m.cls := hown
  have hl : lv_has ls 2 [(0, .ref (kA K 3)), (1, .int x)] := hl
  cases r with
  | false =>
    refine lv_aload_n hx hb dX6_leave_0 rfl (lv_at hl 0 rfl) ?_
    refine m_get hx hb hG hown hF hS (13) rfl rfl iG_7 2 (by decide) kw_47 (fun _ h9 => h9) rfl dX6_leave_1 ?_
    refine lv_if_eq (tgt := 46) hx hb dX6_leave_4 (by decide) (fun c_1 => ?_) (fun c_1 => absurd (rfl) c_1)
    exact m_vret hx hb hr hlk hS rfl (Nat.le_refl 0) (Nat.le_refl 0) dX6_leave_46
  | true =>
    have h10 : t.1 + 1 ≤ 10 := ht rfl
    refine lv_aload_n hx hb dX6_leave_0 rfl (lv_at hl 0 rfl) ?_
    refine m_get hx hb hG hown hF hS (13) rfl rfl iG_7 2 (by decide) kw_47 (fun _ h9 => h9) rfl dX6_leave_1 ?_
    refine lv_if_eq (tgt := 46) hx hb dX6_leave_4 (by decide) (fun c_1 => absurd c_1 (by decide)) (fun c_1 => ?_)
    refine lv_aload_n hx hb dX6_leave_7 rfl (lv_at hl 0 rfl) ?_
    refine m_get hx hb hG hown hF hS (13) rfl rfl iG_7 1 (by decide) kw_46 (fun _ h9 => h9) rfl dX6_leave_8 ?_
    refine lv_if_lt (tgt := 46) hx hb dX6_leave_11 (by decide) (fun c_2 => absurd c_2 (nI_pos (by omega))) (fun c_2 => ?_)
    refine lv_aload_n hx hb dX6_leave_14 rfl (lv_at hl 0 rfl) ?_
    refine m_get hx hb hG hown hF hS (13) rfl rfl iG_7 1 (by decide) kw_46 (fun _ h9 => h9) rfl dX6_leave_15 ?_
    refine lv_aload_n hx hb dX6_leave_18 rfl (lv_at hl 0 rfl) ?_
    refine m_get hx hb hG hown hF hS (13) rfl rfl iG_7 0 (by decide) kw_45 (fun _ h9 => h9) rfl dX6_leave_19 ?_
    refine m_alenI hx hb hF hS (14) rfl dX6_leave_22 ?_
    refine lv_icmp_ge (tgt := 46) hx hb dX6_leave_23 (by decide) (fun c_3 => absurd c_3 (nI_ge (a := t.1) (b := 10) (by omega) (by decide))) (fun c_3 => ?_)
    refine lv_aload_n hx hb dX6_leave_26 rfl (lv_at hl 0 rfl) ?_
    refine m_get hx hb hG hown hF hS (13) rfl rfl iG_7 0 (by decide) kw_45 (fun _ h9 => h9) rfl dX6_leave_27 ?_
    refine lv_aload_n hx hb dX6_leave_30 rfl (lv_at hl 0 rfl) ?_
    refine m_get hx hb hG hown hF hS (13) rfl rfl iG_7 1 (by decide) kw_46 (fun _ h9 => h9) rfl dX6_leave_31 ?_
    refine lv_iload_n hx hb dX6_leave_34 rfl (lv_at hl 1 rfl) ?_
    refine m_iast hx hb hF hS (14) rfl (t.1) rfl (by omega) (by decide) (wT X K true (t.1, upd t.2 t.1 x)) rfl dX6_leave_35 (fun H locs hS => ?_)
    refine lv_aload_n hx hb dX6_leave_36 rfl (lv_at hl 0 rfl) ?_
    refine lv_dup hx hb dX6_leave_37 rfl ?_
    refine m_get hx hb hG hown hF hS (13) rfl rfl iG_7 1 (by decide) kw_46 (fun _ h9 => h9) rfl dX6_leave_38 ?_
    refine lv_iconst (v := 1) hx hb dX6_leave_41 (by decide) ?_
    refine lv_iadd hx hb dX6_leave_42 ?_
    refine m_put hx hb hG hown hF hS (13) rfl rfl iG_7 tyX6_ok nmX6 1 (by decide) kw_46 (fun _ h9 => h9) rfl rfl rfl (Nat.le_of_ble_eq_true rfl) (wT X K true (t.1 + 1, upd t.2 t.1 x)) (by rw [nI_1]; rfl) dX6_leave_43 (fun H locs hS => ?_)
    exact m_vret hx hb hr hlk hS rfl (Nat.le_refl 0) (Nat.le_refl 0) dX6_leave_46
set_option maxHeartbeats 4000000 in
set_option maxRecDepth 100000 in
theorem c_start (l : Launch) (X : Cx) (K : KT) (r : Bool) (t : Tr) (f : Nat) : cV l yX6_start cX6_start 1 (rl f) X [.ref (kA K 3)] (wT X K r t) (fun w => w = wT X K true (0, t.2)) := by
  refine met_start (by decide) (Nat.le_of_ble_eq_true rfl) ?_
  intro p e s m below meth c ls fx hS hl
  obtain ⟨hx, hb, hr, hml, hown, hG, hlk, hF, hz, hnm⟩ := fx
  have hown : s.vm.findClass RX6 = some m.cls := hown
  have hl : lv_has ls 1 [(0, .ref (kA K 3))] := hl
  refine lv_aload_n hx hb dX6_start_0 rfl (lv_at hl 0 rfl) ?_
  refine lv_iconst (v := 0) hx hb dX6_start_1 (by decide) ?_
  refine m_put hx hb hG hown hF hS (13) rfl rfl iG_7 tyX6_ok nmX6 1 (by decide) kw_46 (fun _ h9 => h9) rfl rfl rfl (Nat.le_of_ble_eq_true rfl) (wT X K r (0, t.2)) rfl dX6_start_2 (fun H locs hS => ?_)
  refine lv_aload_n hx hb dX6_start_5 rfl (lv_at hl 0 rfl) ?_
  refine lv_iconst (v := 1) hx hb dX6_start_6 (by decide) ?_
  refine m_put hx hb hG hown hF hS (13) rfl rfl iG_7 tyX6_ok nmX6 2 (by decide) kw_47 (fun _ h9 => h9) rfl rfl rfl (Nat.le_of_ble_eq_true rfl) (wT X K true (0, t.2)) rfl dX6_start_7 (fun H locs hS => ?_)
  exact m_vret hx hb hr hlk hS rfl (Nat.le_refl 0) (Nat.le_refl 0) dX6_start_10
set_option maxHeartbeats 4000000 in
set_option maxRecDepth 100000 in
theorem c_stop (l : Launch) (X : Cx) (K : KT) (r : Bool) (t : Tr) (f : Nat) : cV l yX6_stop cX6_stop 1 (rl f) X [.ref (kA K 3)] (wT X K r t) (fun w => w = wT X K false t) := by
  refine met_start (by decide) (Nat.le_of_ble_eq_true rfl) ?_
  intro p e s m below meth c ls fx hS hl
  obtain ⟨hx, hb, hr, hml, hown, hG, hlk, hF, hz, hnm⟩ := fx
  have hown : s.vm.findClass RX6 = some m.cls := hown
  have hl : lv_has ls 1 [(0, .ref (kA K 3))] := hl
  refine lv_aload_n hx hb dX6_stop_0 rfl (lv_at hl 0 rfl) ?_
  refine lv_iconst (v := 0) hx hb dX6_stop_1 (by decide) ?_
  refine m_put hx hb hG hown hF hS (13) rfl rfl iG_7 tyX6_ok nmX6 2 (by decide) kw_47 (fun _ h9 => h9) rfl rfl rfl (Nat.le_of_ble_eq_true rfl) (wT X K false t) rfl dX6_stop_2 (fun H locs hS => ?_)
  exact m_vret hx hb hr hlk hS rfl (Nat.le_refl 0) (Nat.le_refl 0) dX6_stop_5
set_option maxHeartbeats 4000000 in
set_option maxRecDepth 100000 in
theorem c_Drise (l : Launch) (X : Cx) (K : KT) (r : Bool) (t : Tr) (h i : Nat) (rc : Rc) (w : Int32) (f : Nat) (hi : (kP K)[i]? = some (h, dE (kA K 3) rc)) (hk : kd rc < 7) (hf : 1 ≤ f) (ht : tR r 1 t) : cI l yX2_rise cX2_rise 2 (some .int) (rl f) X [.ref h, .int w] (wT X K r t) (fun v w' => v = w / 4 ∧ w' = wT X K r (te r [1] t)) := by
  refine met_start (by decide) (Nat.le_of_ble_eq_true rfl) ?_
  intro p e s m below meth c ls fx hS hl
  obtain ⟨hx, hb, hr, hml, hown, hG, hlk, hF, hz, hnm⟩ := fx
  have hown : s.vm.findClass RX2 = some m.cls := hown
  have hl : lv_has ls 2 [(0, .ref h), (1, .int w)] := hl
  refine lv_aload_n hx hb dX2_rise_0 rfl (lv_at hl 0 rfl) ?_
  refine m_get hx hb hG hown hF hS (i + 15) (wT_at hi) (kd_cls hk).1 (kd_cls hk).2 2 (by decide) kw_102 (fun _ h9 => h9) rfl dX2_rise_1 ?_
  refine lv_iconst (v := 1) hx hb dX2_rise_4 (by decide) ?_
  refine m_cv (m_runV (n := 1) (rest := []) ⟨hx, hb, hml, hown, hG⟩ (c_leave l X K r t 1 0 (ht.le (by decide))) kw_272 kw_249 kw_250 kw_19 kw_251 (by decide +kernel) (rl_ok (by omega) (by decide)) hF hz hS (q0 := 13) rfl rfl rfl hl.1 rfl (Nat.le_of_ble_eq_true rfl) dX2_rise_5 ⟨Nat.le_refl 0, Nat.le_refl 0⟩) hS (fun w1 H locs hw1 hS => ?_)
  subst hw1
  refine lv_iload_n hx hb dX2_rise_8 rfl (lv_at hl 1 rfl) ?_
  refine lv_iconst (v := 4) hx hb dX2_rise_9 (by decide) ?_
  refine lv_idiv hx hb dX2_rise_10 (by decide) ?_
  exact m_iret hx hb hr hlk hS ⟨rfl, rfl⟩ (Nat.le_refl 0) (Nat.le_refl 0) dX2_rise_11
set_option maxHeartbeats 4000000 in
set_option maxRecDepth 100000 in
theorem c_Dneed (l : Launch) (X : Cx) (K : KT) (r : Bool) (t : Tr) (h i : Nat) (rc : Rc) (f : Nat) (hi : (kP K)[i]? = some (h, dE (kA K 3) rc)) (hk : kd rc < 7) (hf : 1 ≤ f) (ht : tR r 1 t) : cI l yX2_need cX2_need 1 (some .int) (rl f) X [.ref h] (wT X K r t) (fun v w' => v = 100 + rc 1 / 10 ∧ w' = wT X K r (te r [11] t)) := by
  refine met_start (by decide) (Nat.le_of_ble_eq_true rfl) ?_
  intro p e s m below meth c ls fx hS hl
  obtain ⟨hx, hb, hr, hml, hown, hG, hlk, hF, hz, hnm⟩ := fx
  have hown : s.vm.findClass RX2 = some m.cls := hown
  have hl : lv_has ls 1 [(0, .ref h)] := hl
  refine lv_aload_n hx hb dX2_need_0 rfl (lv_at hl 0 rfl) ?_
  refine m_get hx hb hG hown hF hS (i + 15) (wT_at hi) (kd_cls hk).1 (kd_cls hk).2 2 (by decide) kw_102 (fun _ h9 => h9) rfl dX2_need_1 ?_
  refine lv_bipush (v := 11) hx hb dX2_need_4 (by decide) ?_
  refine m_cv (m_runV (n := 1) (rest := []) ⟨hx, hb, hml, hown, hG⟩ (c_leave l X K r t 11 0 (ht.le (by decide))) kw_272 kw_249 kw_250 kw_19 kw_251 (by decide +kernel) (rl_ok (by omega) (by decide)) hF hz hS (q0 := 13) rfl rfl rfl hl.1 rfl (Nat.le_of_ble_eq_true rfl) dX2_need_6 ⟨Nat.le_refl 0, Nat.le_refl 0⟩) hS (fun w1 H locs hw1 hS => ?_)
  subst hw1
  refine lv_bipush (v := 100) hx hb dX2_need_9 (by decide) ?_
  refine lv_aload_n hx hb dX2_need_11 rfl (lv_at hl 0 rfl) ?_
  refine m_get hx hb hG hown hF hS (i + 15) (wT_at hi) (kd_cls hk).1 (kd_cls hk).2 1 (by decide) kw_100 (fun _ h9 => h9) rfl dX2_need_12 ?_
  refine lv_bipush (v := 10) hx hb dX2_need_15 (by decide) ?_
  refine lv_idiv hx hb dX2_need_17 (by decide) ?_
  refine lv_iadd hx hb dX2_need_18 ?_
  exact m_iret hx hb hr hlk hS ⟨rfl, rfl⟩ (Nat.le_refl 0) (Nat.le_refl 0) dX2_need_19
set_option maxHeartbeats 4000000 in
set_option maxRecDepth 100000 in
theorem c_Dbrown (l : Launch) (X : Cx) (K : KT) (r : Bool) (t : Tr) (h i : Nat) (rc : Rc) (w : Int32) (f : Nat) (hi : (kP K)[i]? = some (h, dE (kA K 3) rc)) (hk : kd rc < 7) (hf : 1 ≤ f) (ht : tR r 1 t) : cI l yX2_brown cX2_brown 2 (some .int) (rl f) X [.ref h, .int w] (wT X K r t) (fun v w' => v = w / 50 ∧ w' = wT X K r (te r [21] t)) := by
  refine met_start (by decide) (Nat.le_of_ble_eq_true rfl) ?_
  intro p e s m below meth c ls fx hS hl
  obtain ⟨hx, hb, hr, hml, hown, hG, hlk, hF, hz, hnm⟩ := fx
  have hown : s.vm.findClass RX2 = some m.cls := hown
  have hl : lv_has ls 2 [(0, .ref h), (1, .int w)] := hl
  refine lv_aload_n hx hb dX2_brown_0 rfl (lv_at hl 0 rfl) ?_
  refine m_get hx hb hG hown hF hS (i + 15) (wT_at hi) (kd_cls hk).1 (kd_cls hk).2 2 (by decide) kw_102 (fun _ h9 => h9) rfl dX2_brown_1 ?_
  refine lv_bipush (v := 21) hx hb dX2_brown_4 (by decide) ?_
  refine m_cv (m_runV (n := 1) (rest := []) ⟨hx, hb, hml, hown, hG⟩ (c_leave l X K r t 21 0 (ht.le (by decide))) kw_272 kw_249 kw_250 kw_19 kw_251 (by decide +kernel) (rl_ok (by omega) (by decide)) hF hz hS (q0 := 13) rfl rfl rfl hl.1 rfl (Nat.le_of_ble_eq_true rfl) dX2_brown_6 ⟨Nat.le_refl 0, Nat.le_refl 0⟩) hS (fun w1 H locs hw1 hS => ?_)
  subst hw1
  refine lv_iload_n hx hb dX2_brown_9 rfl (lv_at hl 1 rfl) ?_
  refine lv_bipush (v := 50) hx hb dX2_brown_10 (by decide) ?_
  refine lv_idiv hx hb dX2_brown_12 (by decide) ?_
  exact m_iret hx hb hr hlk hS ⟨rfl, rfl⟩ (Nat.le_refl 0) (Nat.le_refl 0) dX2_brown_13
set_option maxHeartbeats 4000000 in
set_option maxRecDepth 100000 in
theorem c_Dprice (l : Launch) (X : Cx) (K : KT) (r : Bool) (t : Tr) (h i : Nat) (rc : Rc) (f : Nat) (hi : (kP K)[i]? = some (h, dE (kA K 3) rc)) (hk : kd rc < 7) (hf : 1 ≤ f) (ht : tR r 1 t) : cI l yX2_price cX2_price 1 (some .int) (rl f) X [.ref h] (wT X K r t) (fun v w' => v = 10 + rc 1 / 5 ∧ w' = wT X K r (te r [31] t)) := by
  refine met_start (by decide) (Nat.le_of_ble_eq_true rfl) ?_
  intro p e s m below meth c ls fx hS hl
  obtain ⟨hx, hb, hr, hml, hown, hG, hlk, hF, hz, hnm⟩ := fx
  have hown : s.vm.findClass RX2 = some m.cls := hown
  have hl : lv_has ls 1 [(0, .ref h)] := hl
  refine lv_aload_n hx hb dX2_price_0 rfl (lv_at hl 0 rfl) ?_
  refine m_get hx hb hG hown hF hS (i + 15) (wT_at hi) (kd_cls hk).1 (kd_cls hk).2 2 (by decide) kw_102 (fun _ h9 => h9) rfl dX2_price_1 ?_
  refine lv_bipush (v := 31) hx hb dX2_price_4 (by decide) ?_
  refine m_cv (m_runV (n := 1) (rest := []) ⟨hx, hb, hml, hown, hG⟩ (c_leave l X K r t 31 0 (ht.le (by decide))) kw_272 kw_249 kw_250 kw_19 kw_251 (by decide +kernel) (rl_ok (by omega) (by decide)) hF hz hS (q0 := 13) rfl rfl rfl hl.1 rfl (Nat.le_of_ble_eq_true rfl) dX2_price_6 ⟨Nat.le_refl 0, Nat.le_refl 0⟩) hS (fun w1 H locs hw1 hS => ?_)
  subst hw1
  refine lv_bipush (v := 10) hx hb dX2_price_9 (by decide) ?_
  refine lv_aload_n hx hb dX2_price_11 rfl (lv_at hl 0 rfl) ?_
  refine m_get hx hb hG hown hF hS (i + 15) (wT_at hi) (kd_cls hk).1 (kd_cls hk).2 1 (by decide) kw_100 (fun _ h9 => h9) rfl dX2_price_12 ?_
  refine lv_iconst (v := 5) hx hb dX2_price_15 (by decide) ?_
  refine lv_idiv hx hb dX2_price_16 (by decide) ?_
  refine lv_iadd hx hb dX2_price_17 ?_
  exact m_iret hx hb hr hlk hS ⟨rfl, rfl⟩ (Nat.le_refl 0) (Nat.le_refl 0) dX2_price_18
theorem sub_up1 {args : Array Value} {s : State} {C T : String} (h : (Cond.superclass C T).before args s = true) : ∀ ps pd : ClassId, s.vm.findClass C = some ps → s.vm.findClass T = some pd → s.vm.isSubclass ps pd = true := fun ps pd h1 h2 => by
  obtain ⟨p, k, kp, a1, a2, a3, a4, -⟩ := Cond.superclass_spec h1 h
  cases h2.symm.trans a1
  have hlt : ps < s.vm.classes.size := (Array.getElem?_eq_some_iff.mp a2).1
  obtain ⟨n, hn⟩ : ∃ n, s.vm.classes.size = n + 1 := Nat.exists_eq_succ_of_ne_zero (Nat.ne_of_gt (Nat.lt_of_le_of_lt (Nat.zero_le _) hlt))
  simp [Vm.isSubclass, Vm.isSubclassAux, hn, a2, a4]
theorem sub_cast {args : Array Value} {s : State} {C D T O : String} (h : va_Nw (.castable C T) s) (hC : (Cond.superclass C D).before args s = true) (hT : (Cond.superclass T O).before args s = true) : ∀ ps pd : ClassId, s.vm.findClass C = some ps → s.vm.findClass T = some pd → s.vm.isSubclass ps pd = true := fun ps pd h1 h2 => by
  obtain ⟨c0, t0, f1, f2, f3⟩ := Cond.castable_spec (va_Nw.use (A := args) rfl h)
  cases h1.symm.trans f1
  cases h2.symm.trans f2
  obtain ⟨p, k, kp, a1, a2, a3, a4, a5, -⟩ := Cond.superclass_spec h1 hC
  obtain ⟨p', k', kp', b1, b2, b3, b4, b5, b6, b7⟩ := Cond.superclass_spec h2 hT
  exact isSubclass_of_assignable a2 b2 a5 b5 b7 f3
theorem sub_Yeast_Dough {X : Cx} {args : Array Value} {s : State} (hG : ∀ w ∈ G, w.before args s = true) (_ : mF X s) : ∀ ps pd : ClassId, s.vm.findClass RX7 = some ps → s.vm.findClass RX2 = some pd → s.vm.isSubclass ps pd = true := sub_up1 (hG _ kw_139)
theorem sub_Rye_Sour {X : Cx} {args : Array Value} {s : State} (hG : ∀ w ∈ G, w.before args s = true) (_ : mF X s) : ∀ ps pd : ClassId, s.vm.findClass RX3 = some ps → s.vm.findClass RX4 = some pd → s.vm.isSubclass ps pd = true := sub_up1 (hG _ kw_169)
theorem sub_Sweet_Dough {X : Cx} {args : Array Value} {s : State} (hG : ∀ w ∈ G, w.before args s = true) (_ : mF X s) : ∀ ps pd : ClassId, s.vm.findClass RX5 = some ps → s.vm.findClass RX2 = some pd → s.vm.isSubclass ps pd = true := sub_up1 (hG _ kw_199)
theorem sub_Sour_Yeast {X : Cx} {args : Array Value} {s : State} (hG : ∀ w ∈ G, w.before args s = true) (_ : mF X s) : ∀ ps pd : ClassId, s.vm.findClass RX4 = some ps → s.vm.findClass RX7 = some pd → s.vm.isSubclass ps pd = true := sub_up1 (hG _ kw_154)
theorem sub_Rye_Dough {X : Cx} {args : Array Value} {s : State} (hG : ∀ w ∈ G, w.before args s = true) (hF : mF X s) : ∀ ps pd : ClassId, s.vm.findClass RX3 = some ps → s.vm.findClass RX2 = some pd → s.vm.isSubclass ps pd = true := sub_cast (hF.2.2.1 3 (by decide) (by decide)) (hG _ kw_169) (hG _ kw_225)
theorem sub_Sour_Dough {X : Cx} {args : Array Value} {s : State} (hG : ∀ w ∈ G, w.before args s = true) (hF : mF X s) : ∀ ps pd : ClassId, s.vm.findClass RX4 = some ps → s.vm.findClass RX2 = some pd → s.vm.isSubclass ps pd = true := sub_cast (hF.2.2.1 2 (by decide) (by decide)) (hG _ kw_154) (hG _ kw_225)
theorem sub_Dough_Dough {X : Cx} {args : Array Value} {s : State} (_ : ∀ w ∈ G, w.before args s = true) (_ : mF X s) : ∀ ps pd : ClassId, s.vm.findClass RX2 = some ps → s.vm.findClass RX2 = some pd → s.vm.isSubclass ps pd = true := sub_self
theorem sub_Rye_Rye {X : Cx} {args : Array Value} {s : State} (_ : ∀ w ∈ G, w.before args s = true) (_ : mF X s) : ∀ ps pd : ClassId, s.vm.findClass RX3 = some ps → s.vm.findClass RX3 = some pd → s.vm.isSubclass ps pd = true := sub_self
set_option maxHeartbeats 4000000 in
set_option maxRecDepth 100000 in
theorem c_Srise (l : Launch) (X : Cx) (K : KT) (r : Bool) (t : Tr) (h i : Nat) (rc : Rc) (w : Int32) (f : Nat) (hi : (kP K)[i]? = some (h, dE (kA K 3) rc)) (hk : kd rc < 7) (hf : 2 ≤ f) (ht : tR r 2 t) : cI l yX4_rise cX4_rise 2 (some .int) (rl f) X [.ref h, .int w] (wT X K r t) (fun v w' => v = w / 4 / 2 + 1 ∧ w' = wT X K r (te r [2, 1] t)) := by
  refine met_start (by decide) (Nat.le_of_ble_eq_true rfl) ?_
  intro p e s m below meth c ls fx hS hl
  obtain ⟨hx, hb, hr, hml, hown, hG, hlk, hF, hz, hnm⟩ := fx
  have hown : s.vm.findClass RX4 = some m.cls := hown
  have hl : lv_has ls 2 [(0, .ref h), (1, .int w)] := hl
  refine lv_aload_n hx hb dX4_rise_0 rfl (lv_at hl 0 rfl) ?_
  refine m_get hx hb hG hown hF hS (i + 15) (wT_at hi) (kd_cls hk).1 (kd_cls hk).2 2 (by decide) kw_105 (sf_Sour hG) rfl dX4_rise_1 ?_
  refine lv_iconst (v := 2) hx hb dX4_rise_4 (by decide) ?_
  refine m_cv (m_runV (n := 1) (rest := []) ⟨hx, hb, hml, hown, hG⟩ (c_leave l X K r t 2 0 (ht.le (by decide))) kw_257 kw_249 kw_250 kw_19 kw_251 (by decide +kernel) (rl_ok (by omega) (by decide)) hF hz hS (q0 := 13) rfl rfl rfl hl.1 rfl (Nat.le_of_ble_eq_true rfl) dX4_rise_5 ⟨Nat.le_refl 0, Nat.le_refl 0⟩) hS (fun w1 H locs hw1 hS => ?_)
  subst hw1
  refine lv_aload_n hx hb dX4_rise_8 rfl (lv_at hl 0 rfl) ?_
  refine lv_iload_n hx hb dX4_rise_9 rfl (lv_at hl 1 rfl) ?_
  refine m_ci (m_runSU (x := ⟨RX7, "rise", "(I)I"⟩) (n := 1) (rest := []) ⟨hx, hb, hml, hown, hG⟩ (c_Drise l X K r (te r [2] t) h i rc w 1 hi hk (by decide) (ht.step (by decide))) kw_258 kw_259 kw_154 kw_242 kw_21 kw_271 (sub_Yeast_Dough hG hF) ⟨rfl, rfl⟩ (by decide +kernel) (rl_ok (by omega) (by decide)) hF hz hS (q0 := i + 15) (wT_at hi) (kd_cls hk).1 rfl hl.1 rfl (Nat.le_of_ble_eq_true rfl) dX4_rise_10 ⟨Nat.le_refl 0, Nat.le_refl 0⟩) hS (fun r_1 w2 H locs hw2 hS => ?_)
  obtain ⟨rfl, rfl⟩ := hw2
  rw [te_te] at hS
  refine lv_iconst (v := 2) hx hb dX4_rise_13 (by decide) ?_
  refine lv_idiv hx hb dX4_rise_14 (by decide) ?_
  refine lv_iconst (v := 1) hx hb dX4_rise_15 (by decide) ?_
  refine lv_iadd hx hb dX4_rise_16 ?_
  exact m_iret hx hb hr hlk hS ⟨rfl, rfl⟩ (Nat.le_refl 0) (Nat.le_refl 0) dX4_rise_17
set_option maxHeartbeats 4000000 in
set_option maxRecDepth 100000 in
theorem c_Brise (l : Launch) (X : Cx) (K : KT) (r : Bool) (t : Tr) (h i : Nat) (rc : Rc) (w : Int32) (f : Nat) (hi : (kP K)[i]? = some (h, dE (kA K 3) rc)) (hk : kd rc < 7) (hf : 3 ≤ f) (ht : tR r 3 t) : cI l yX0_rise cX0_rise 2 (some .int) (rl f) X [.ref h, .int w] (wT X K r t) (fun v w' => v = w / 4 / 2 + 1 - 1 ∧ w' = wT X K r (te r [3, 2, 1] t)) := by
  refine met_start (by decide) (Nat.le_of_ble_eq_true rfl) ?_
  intro p e s m below meth c ls fx hS hl
  obtain ⟨hx, hb, hr, hml, hown, hG, hlk, hF, hz, hnm⟩ := fx
  have hown : s.vm.findClass RX0 = some m.cls := hown
  have hl : lv_has ls 2 [(0, .ref h), (1, .int w)] := hl
  refine lv_aload_n hx hb dX0_rise_0 rfl (lv_at hl 0 rfl) ?_
  refine m_get hx hb hG hown hF hS (i + 15) (wT_at hi) (kd_cls hk).1 (kd_cls hk).2 2 (by decide) kw_103 (sf_Black hG) rfl dX0_rise_1 ?_
  refine lv_iconst (v := 3) hx hb dX0_rise_4 (by decide) ?_
  refine m_cv (m_runV (n := 1) (rest := []) ⟨hx, hb, hml, hown, hG⟩ (c_leave l X K r t 3 0 (ht.le (by decide))) kw_248 kw_249 kw_250 kw_19 kw_251 (by decide +kernel) (rl_ok (by omega) (by decide)) hF hz hS (q0 := 13) rfl rfl rfl hl.1 rfl (Nat.le_of_ble_eq_true rfl) dX0_rise_5 ⟨Nat.le_refl 0, Nat.le_refl 0⟩) hS (fun w1 H locs hw1 hS => ?_)
  subst hw1
  refine lv_aload_n hx hb dX0_rise_8 rfl (lv_at hl 0 rfl) ?_
  refine lv_iload_n hx hb dX0_rise_9 rfl (lv_at hl 1 rfl) ?_
  refine m_ci (m_runSU (x := ⟨RX3, "rise", "(I)I"⟩) (n := 1) (rest := []) ⟨hx, hb, hml, hown, hG⟩ (c_Srise l X K r (te r [3] t) h i rc w 2 hi hk (by decide) (ht.step (by decide))) kw_252 kw_253 kw_184 kw_255 kw_23 kw_256 (sub_Rye_Sour hG hF) ⟨rfl, rfl⟩ (by decide +kernel) (rl_ok (by omega) (by decide)) hF hz hS (q0 := i + 15) (wT_at hi) (kd_cls hk).1 rfl hl.1 rfl (Nat.le_of_ble_eq_true rfl) dX0_rise_10 ⟨Nat.le_refl 0, Nat.le_refl 0⟩) hS (fun r_1 w2 H locs hw2 hS => ?_)
  obtain ⟨rfl, rfl⟩ := hw2
  rw [te_te] at hS
  refine lv_iconst (v := 1) hx hb dX0_rise_13 (by decide) ?_
  refine lv_isub hx hb dX0_rise_14 ?_
  exact m_iret hx hb hr hlk hS ⟨rfl, rfl⟩ (Nat.le_refl 0) (Nat.le_refl 0) dX0_rise_15
set_option maxHeartbeats 4000000 in
set_option maxRecDepth 100000 in
theorem c_Urise (l : Launch) (X : Cx) (K : KT) (r : Bool) (t : Tr) (h i : Nat) (rc : Rc) (w : Int32) (f : Nat) (hi : (kP K)[i]? = some (h, dE (kA K 3) rc)) (hk : kd rc < 7) (hf : 2 ≤ f) (ht : tR r 2 t) : cI l yX1_rise cX1_rise 2 (some .int) (rl f) X [.ref h, .int w] (wT X K r t) (fun v w' => v = w / 4 + w / 10 ∧ w' = wT X K r (te r [4, 1] t)) := by
  refine met_start (by decide) (Nat.le_of_ble_eq_true rfl) ?_
  intro p e s m below meth c ls fx hS hl
  obtain ⟨hx, hb, hr, hml, hown, hG, hlk, hF, hz, hnm⟩ := fx
  have hown : s.vm.findClass RX1 = some m.cls := hown
  have hl : lv_has ls 2 [(0, .ref h), (1, .int w)] := hl
  refine lv_aload_n hx hb dX1_rise_0 rfl (lv_at hl 0 rfl) ?_
  refine m_get hx hb hG hown hF hS (i + 15) (wT_at hi) (kd_cls hk).1 (kd_cls hk).2 2 (by decide) kw_107 (sf_Butter hG) rfl dX1_rise_1 ?_
  refine lv_iconst (v := 4) hx hb dX1_rise_4 (by decide) ?_
  refine m_cv (m_runV (n := 1) (rest := []) ⟨hx, hb, hml, hown, hG⟩ (c_leave l X K r t 4 0 (ht.le (by decide))) kw_264 kw_249 kw_250 kw_19 kw_251 (by decide +kernel) (rl_ok (by omega) (by decide)) hF hz hS (q0 := 13) rfl rfl rfl hl.1 rfl (Nat.le_of_ble_eq_true rfl) dX1_rise_5 ⟨Nat.le_refl 0, Nat.le_refl 0⟩) hS (fun w1 H locs hw1 hS => ?_)
  subst hw1
  refine lv_aload_n hx hb dX1_rise_8 rfl (lv_at hl 0 rfl) ?_
  refine lv_iload_n hx hb dX1_rise_9 rfl (lv_at hl 1 rfl) ?_
  refine m_ci (m_runSU (x := ⟨RX5, "rise", "(I)I"⟩) (n := 1) (rest := []) ⟨hx, hb, hml, hown, hG⟩ (c_Drise l X K r (te r [4] t) h i rc w 1 hi hk (by decide) (ht.step (by decide))) kw_265 kw_266 kw_214 kw_242 kw_21 kw_271 (sub_Sweet_Dough hG hF) ⟨rfl, rfl⟩ (by decide +kernel) (rl_ok (by omega) (by decide)) hF hz hS (q0 := i + 15) (wT_at hi) (kd_cls hk).1 rfl hl.1 rfl (Nat.le_of_ble_eq_true rfl) dX1_rise_10 ⟨Nat.le_refl 0, Nat.le_refl 0⟩) hS (fun r_1 w2 H locs hw2 hS => ?_)
  obtain ⟨rfl, rfl⟩ := hw2
  rw [te_te] at hS
  refine lv_iload_n hx hb dX1_rise_13 rfl (lv_at hl 1 rfl) ?_
  refine lv_bipush (v := 10) hx hb dX1_rise_14 (by decide) ?_
  refine lv_idiv hx hb dX1_rise_16 (by decide) ?_
  refine lv_iadd hx hb dX1_rise_17 ?_
  exact m_iret hx hb hr hlk hS ⟨rfl, rfl⟩ (Nat.le_refl 0) (Nat.le_refl 0) dX1_rise_18
set_option maxHeartbeats 4000000 in
set_option maxRecDepth 100000 in
theorem c_Yneed (l : Launch) (X : Cx) (K : KT) (r : Bool) (t : Tr) (h i : Nat) (rc : Rc) (f : Nat) (hi : (kP K)[i]? = some (h, dE (kA K 3) rc)) (hk : kd rc < 7) (hf : 2 ≤ f) (ht : tR r 2 t) : cI l yX7_need cX7_need 1 (some .int) (rl f) X [.ref h] (wT X K r t) (fun v w' => v = 100 + rc 1 / 10 + 50 ∧ w' = wT X K r (te r [12, 11] t)) := by
  refine met_start (by decide) (Nat.le_of_ble_eq_true rfl) ?_
  intro p e s m below meth c ls fx hS hl
  obtain ⟨hx, hb, hr, hml, hown, hG, hlk, hF, hz, hnm⟩ := fx
  have hown : s.vm.findClass RX7 = some m.cls := hown
  have hl : lv_has ls 1 [(0, .ref h)] := hl
  refine lv_aload_n hx hb dX7_need_0 rfl (lv_at hl 0 rfl) ?_
  refine m_get hx hb hG hown hF hS (i + 15) (wT_at hi) (kd_cls hk).1 (kd_cls hk).2 2 (by decide) kw_111 (sf_Yeast hG) rfl dX7_need_1 ?_
  refine lv_bipush (v := 12) hx hb dX7_need_4 (by decide) ?_
  refine m_cv (m_runV (n := 1) (rest := []) ⟨hx, hb, hml, hown, hG⟩ (c_leave l X K r t 12 0 (ht.le (by decide))) kw_286 kw_249 kw_250 kw_19 kw_251 (by decide +kernel) (rl_ok (by omega) (by decide)) hF hz hS (q0 := 13) rfl rfl rfl hl.1 rfl (Nat.le_of_ble_eq_true rfl) dX7_need_6 ⟨Nat.le_refl 0, Nat.le_refl 0⟩) hS (fun w1 H locs hw1 hS => ?_)
  subst hw1
  refine lv_aload_n hx hb dX7_need_9 rfl (lv_at hl 0 rfl) ?_
  refine m_ci (m_runSU (x := yX2_need) (n := 0) (rest := []) ⟨hx, hb, hml, hown, hG⟩ (c_Dneed l X K r (te r [12] t) h i rc 1 hi hk (by decide) (ht.step (by decide))) kw_287 kw_276 kw_139 kw_274 kw_21 kw_296 (sub_Dough_Dough hG hF) ⟨rfl, rfl⟩ (by decide +kernel) (rl_ok (by omega) (by decide)) hF hz hS (q0 := i + 15) (wT_at hi) (kd_cls hk).1 rfl hl.1 rfl (Nat.le_of_ble_eq_true rfl) dX7_need_10 ⟨Nat.le_refl 0, Nat.le_refl 0⟩) hS (fun r_1 w2 H locs hw2 hS => ?_)
  obtain ⟨rfl, rfl⟩ := hw2
  rw [te_te] at hS
  refine lv_bipush (v := 50) hx hb dX7_need_13 (by decide) ?_
  refine lv_iadd hx hb dX7_need_15 ?_
  exact m_iret hx hb hr hlk hS ⟨rfl, rfl⟩ (Nat.le_refl 0) (Nat.le_refl 0) dX7_need_16
set_option maxHeartbeats 4000000 in
set_option maxRecDepth 100000 in
theorem c_Bbrown (l : Launch) (X : Cx) (K : KT) (r : Bool) (t : Tr) (h i : Nat) (rc : Rc) (w : Int32) (f : Nat) (hi : (kP K)[i]? = some (h, dE (kA K 3) rc)) (hk : kd rc < 7) (hf : 2 ≤ f) (ht : tR r 2 t) : cI l yX0_brown cX0_brown 2 (some .int) (rl f) X [.ref h, .int w] (wT X K r t) (fun v w' => v = (w / 50 + 2) / 3 ∧ w' = wT X K r (te r [22, 21] t)) := by
  refine met_start (by decide) (Nat.le_of_ble_eq_true rfl) ?_
  intro p e s m below meth c ls fx hS hl
  obtain ⟨hx, hb, hr, hml, hown, hG, hlk, hF, hz, hnm⟩ := fx
  have hown : s.vm.findClass RX0 = some m.cls := hown
  have hl : lv_has ls 2 [(0, .ref h), (1, .int w)] := hl
  refine lv_aload_n hx hb dX0_brown_0 rfl (lv_at hl 0 rfl) ?_
  refine m_get hx hb hG hown hF hS (i + 15) (wT_at hi) (kd_cls hk).1 (kd_cls hk).2 2 (by decide) kw_103 (sf_Black hG) rfl dX0_brown_1 ?_
  refine lv_bipush (v := 22) hx hb dX0_brown_4 (by decide) ?_
  refine m_cv (m_runV (n := 1) (rest := []) ⟨hx, hb, hml, hown, hG⟩ (c_leave l X K r t 22 0 (ht.le (by decide))) kw_248 kw_249 kw_250 kw_19 kw_251 (by decide +kernel) (rl_ok (by omega) (by decide)) hF hz hS (q0 := 13) rfl rfl rfl hl.1 rfl (Nat.le_of_ble_eq_true rfl) dX0_brown_6 ⟨Nat.le_refl 0, Nat.le_refl 0⟩) hS (fun w1 H locs hw1 hS => ?_)
  subst hw1
  refine lv_aload_n hx hb dX0_brown_9 rfl (lv_at hl 0 rfl) ?_
  refine lv_iload_n hx hb dX0_brown_10 rfl (lv_at hl 1 rfl) ?_
  refine m_ci (m_runSU (x := ⟨RX3, "brown", "(I)I"⟩) (n := 1) (rest := []) ⟨hx, hb, hml, hown, hG⟩ (c_Dbrown l X K r (te r [22] t) h i rc w 1 hi hk (by decide) (ht.step (by decide))) kw_304 kw_305 kw_184 kw_298 kw_21 kw_316 (sub_Rye_Dough hG hF) ⟨rfl, rfl⟩ (by decide +kernel) (rl_ok (by omega) (by decide)) hF hz hS (q0 := i + 15) (wT_at hi) (kd_cls hk).1 rfl hl.1 rfl (Nat.le_of_ble_eq_true rfl) dX0_brown_11 ⟨Nat.le_refl 0, Nat.le_refl 0⟩) hS (fun r_1 w2 H locs hw2 hS => ?_)
  obtain ⟨rfl, rfl⟩ := hw2
  rw [te_te] at hS
  refine lv_iconst (v := 2) hx hb dX0_brown_14 (by decide) ?_
  refine lv_iadd hx hb dX0_brown_15 ?_
  refine lv_iconst (v := 3) hx hb dX0_brown_16 (by decide) ?_
  refine lv_idiv hx hb dX0_brown_17 (by decide) ?_
  exact m_iret hx hb hr hlk hS ⟨rfl, rfl⟩ (Nat.le_refl 0) (Nat.le_refl 0) dX0_brown_18
set_option maxHeartbeats 4000000 in
set_option maxRecDepth 100000 in
theorem c_Wbrown (l : Launch) (X : Cx) (K : KT) (r : Bool) (t : Tr) (h i : Nat) (rc : Rc) (w : Int32) (f : Nat) (hi : (kP K)[i]? = some (h, dE (kA K 3) rc)) (hk : kd rc < 7) (hf : 2 ≤ f) (ht : tR r 2 t) : cI l yX5_brown cX5_brown 2 (some .int) (rl f) X [.ref h, .int w] (wT X K r t) (fun v w' => v = w / 50 + 1 ∧ w' = wT X K r (te r [23, 21] t)) := by
  refine met_start (by decide) (Nat.le_of_ble_eq_true rfl) ?_
  intro p e s m below meth c ls fx hS hl
  obtain ⟨hx, hb, hr, hml, hown, hG, hlk, hF, hz, hnm⟩ := fx
  have hown : s.vm.findClass RX5 = some m.cls := hown
  have hl : lv_has ls 2 [(0, .ref h), (1, .int w)] := hl
  refine lv_aload_n hx hb dX5_brown_0 rfl (lv_at hl 0 rfl) ?_
  refine m_get hx hb hG hown hF hS (i + 15) (wT_at hi) (kd_cls hk).1 (kd_cls hk).2 2 (by decide) kw_113 (sf_Sweet hG) rfl dX5_brown_1 ?_
  refine lv_bipush (v := 23) hx hb dX5_brown_4 (by decide) ?_
  refine m_cv (m_runV (n := 1) (rest := []) ⟨hx, hb, hml, hown, hG⟩ (c_leave l X K r t 23 0 (ht.le (by decide))) kw_310 kw_249 kw_250 kw_19 kw_251 (by decide +kernel) (rl_ok (by omega) (by decide)) hF hz hS (q0 := 13) rfl rfl rfl hl.1 rfl (Nat.le_of_ble_eq_true rfl) dX5_brown_6 ⟨Nat.le_refl 0, Nat.le_refl 0⟩) hS (fun w1 H locs hw1 hS => ?_)
  subst hw1
  refine lv_aload_n hx hb dX5_brown_9 rfl (lv_at hl 0 rfl) ?_
  refine lv_iload_n hx hb dX5_brown_10 rfl (lv_at hl 1 rfl) ?_
  refine m_ci (m_runSU (x := yX2_brown) (n := 1) (rest := []) ⟨hx, hb, hml, hown, hG⟩ (c_Dbrown l X K r (te r [23] t) h i rc w 1 hi hk (by decide) (ht.step (by decide))) kw_311 kw_300 kw_199 kw_298 kw_21 kw_316 (sub_Dough_Dough hG hF) ⟨rfl, rfl⟩ (by decide +kernel) (rl_ok (by omega) (by decide)) hF hz hS (q0 := i + 15) (wT_at hi) (kd_cls hk).1 rfl hl.1 rfl (Nat.le_of_ble_eq_true rfl) dX5_brown_11 ⟨Nat.le_refl 0, Nat.le_refl 0⟩) hS (fun r_1 w2 H locs hw2 hS => ?_)
  obtain ⟨rfl, rfl⟩ := hw2
  rw [te_te] at hS
  refine lv_iconst (v := 1) hx hb dX5_brown_14 (by decide) ?_
  refine lv_iadd hx hb dX5_brown_15 ?_
  exact m_iret hx hb hr hlk hS ⟨rfl, rfl⟩ (Nat.le_refl 0) (Nat.le_refl 0) dX5_brown_16
set_option maxHeartbeats 4000000 in
set_option maxRecDepth 100000 in
theorem c_Rprice (l : Launch) (X : Cx) (K : KT) (r : Bool) (t : Tr) (h i : Nat) (rc : Rc) (f : Nat) (hi : (kP K)[i]? = some (h, dE (kA K 3) rc)) (hk : kd rc < 7) (hf : 2 ≤ f) (ht : tR r 2 t) : cI l yX3_price cX3_price 1 (some .int) (rl f) X [.ref h] (wT X K r t) (fun v w' => v = 10 + rc 1 / 5 + 40 ∧ w' = wT X K r (te r [32, 31] t)) := by
  refine met_start (by decide) (Nat.le_of_ble_eq_true rfl) ?_
  intro p e s m below meth c ls fx hS hl
  obtain ⟨hx, hb, hr, hml, hown, hG, hlk, hF, hz, hnm⟩ := fx
  have hown : s.vm.findClass RX3 = some m.cls := hown
  have hl : lv_has ls 1 [(0, .ref h)] := hl
  refine lv_aload_n hx hb dX3_price_0 rfl (lv_at hl 0 rfl) ?_
  refine m_get hx hb hG hown hF hS (i + 15) (wT_at hi) (kd_cls hk).1 (kd_cls hk).2 2 (by decide) kw_109 (sf_Rye hG) rfl dX3_price_1 ?_
  refine lv_bipush (v := 32) hx hb dX3_price_4 (by decide) ?_
  refine m_cv (m_runV (n := 1) (rest := []) ⟨hx, hb, hml, hown, hG⟩ (c_leave l X K r t 32 0 (ht.le (by decide))) kw_280 kw_249 kw_250 kw_19 kw_251 (by decide +kernel) (rl_ok (by omega) (by decide)) hF hz hS (q0 := 13) rfl rfl rfl hl.1 rfl (Nat.le_of_ble_eq_true rfl) dX3_price_6 ⟨Nat.le_refl 0, Nat.le_refl 0⟩) hS (fun w1 H locs hw1 hS => ?_)
  subst hw1
  refine lv_aload_n hx hb dX3_price_9 rfl (lv_at hl 0 rfl) ?_
  refine m_ci (m_runSU (x := ⟨RX4, "price", "()I"⟩) (n := 0) (rest := []) ⟨hx, hb, hml, hown, hG⟩ (c_Dprice l X K r (te r [32] t) h i rc 1 hi hk (by decide) (ht.step (by decide))) kw_327 kw_328 kw_169 kw_318 kw_21 kw_343 (sub_Sour_Dough hG hF) ⟨rfl, rfl⟩ (by decide +kernel) (rl_ok (by omega) (by decide)) hF hz hS (q0 := i + 15) (wT_at hi) (kd_cls hk).1 rfl hl.1 rfl (Nat.le_of_ble_eq_true rfl) dX3_price_10 ⟨Nat.le_refl 0, Nat.le_refl 0⟩) hS (fun r_1 w2 H locs hw2 hS => ?_)
  obtain ⟨rfl, rfl⟩ := hw2
  rw [te_te] at hS
  refine lv_bipush (v := 40) hx hb dX3_price_13 (by decide) ?_
  refine lv_iadd hx hb dX3_price_15 ?_
  exact m_iret hx hb hr hlk hS ⟨rfl, rfl⟩ (Nat.le_refl 0) (Nat.le_refl 0) dX3_price_16
set_option maxHeartbeats 4000000 in
set_option maxRecDepth 100000 in
theorem c_Uprice (l : Launch) (X : Cx) (K : KT) (r : Bool) (t : Tr) (h i : Nat) (rc : Rc) (f : Nat) (hi : (kP K)[i]? = some (h, dE (kA K 3) rc)) (hk : kd rc < 7) (hf : 2 ≤ f) (ht : tR r 2 t) : cI l yX1_price cX1_price 1 (some .int) (rl f) X [.ref h] (wT X K r t) (fun v w' => v = 2 * (10 + rc 1 / 5) ∧ w' = wT X K r (te r [34, 31] t)) := by
  refine met_start (by decide) (Nat.le_of_ble_eq_true rfl) ?_
  intro p e s m below meth c ls fx hS hl
  obtain ⟨hx, hb, hr, hml, hown, hG, hlk, hF, hz, hnm⟩ := fx
  have hown : s.vm.findClass RX1 = some m.cls := hown
  have hl : lv_has ls 1 [(0, .ref h)] := hl
  refine lv_aload_n hx hb dX1_price_0 rfl (lv_at hl 0 rfl) ?_
  refine m_get hx hb hG hown hF hS (i + 15) (wT_at hi) (kd_cls hk).1 (kd_cls hk).2 2 (by decide) kw_107 (sf_Butter hG) rfl dX1_price_1 ?_
  refine lv_bipush (v := 34) hx hb dX1_price_4 (by decide) ?_
  refine m_cv (m_runV (n := 1) (rest := []) ⟨hx, hb, hml, hown, hG⟩ (c_leave l X K r t 34 0 (ht.le (by decide))) kw_264 kw_249 kw_250 kw_19 kw_251 (by decide +kernel) (rl_ok (by omega) (by decide)) hF hz hS (q0 := 13) rfl rfl rfl hl.1 rfl (Nat.le_of_ble_eq_true rfl) dX1_price_6 ⟨Nat.le_refl 0, Nat.le_refl 0⟩) hS (fun w1 H locs hw1 hS => ?_)
  subst hw1
  refine lv_iconst (v := 2) hx hb dX1_price_9 (by decide) ?_
  refine lv_aload_n hx hb dX1_price_10 rfl (lv_at hl 0 rfl) ?_
  refine m_ci (m_runSU (x := ⟨RX5, "price", "()I"⟩) (n := 0) (rest := [.int 2]) ⟨hx, hb, hml, hown, hG⟩ (c_Dprice l X K r (te r [34] t) h i rc 1 hi hk (by decide) (ht.step (by decide))) kw_337 kw_338 kw_214 kw_318 kw_21 kw_343 (sub_Sweet_Dough hG hF) ⟨rfl, rfl⟩ (by decide +kernel) (rl_ok (by omega) (by decide)) hF hz hS (q0 := i + 15) (wT_at hi) (kd_cls hk).1 rfl hl.1 rfl (Nat.le_of_ble_eq_true rfl) dX1_price_11 ⟨Nat.le_refl 0, Nat.le_refl 0⟩) hS (fun r_1 w2 H locs hw2 hS => ?_)
  obtain ⟨rfl, rfl⟩ := hw2
  rw [te_te] at hS
  refine lv_imul hx hb dX1_price_14 ?_
  exact m_iret hx hb hr hlk hS ⟨rfl, rfl⟩ (Nat.le_refl 0) (Nat.le_refl 0) dX1_price_15
