set_option maxHeartbeats 4000000 in
set_option maxRecDepth 100000 in
theorem c_bake_bad (l : Launch) (X : Cx) (q : Nat → Nat × va_E) (A : Nat → Nat) (n : Nat) (ad : Nat → Nat) (g : Nat → Rc) (wm dy tl : Int32) (hs : Nat → Int32) (t : Tr) (j f : Nat) (hn : n ≤ 40) (hkd : ∀ i, i < n → kd (g i) < 7) (hj : j < n) (o : Int32) (hf : 5 ≤ f) (h0 : ovB o = 0) : cI l yX8_bake cX8_bake 5 (some .int) (rl f) X [.ref (A 0), .int (nI j), .int o] (wT X (kC q A n ad g wm dy tl hs) false t) (fun r w' => r = -2 ∧ w' = wT X (kC q A n ad g wm dy tl hs) false t) := by
  refine met_start (by decide) (Nat.le_of_ble_eq_true rfl) ?_
  intro p e s m below meth c ls fx hS hl
  obtain ⟨hx, hb, hr, hml, hown, hG, hlk, hF, hz, hnm⟩ := fx
  have hown : s.vm.findClass RX8 = some m.cls := hown
  have hl : lv_has ls 5 [(0, .ref (A 0)), (1, .int (nI j)), (2, .int o)] := hl
  refine lv_aload_n hx hb dX8_bake_0 rfl (lv_at hl 0 rfl) ?_
  refine lv_iload_n hx hb dX8_bake_1 rfl (lv_at hl 1 rfl) ?_
  refine m_cq (m_runV (n := 1) (rest := []) ⟨hx, hb, hml, hown, hG⟩ (c_find l X q A n ad g wm dy tl hs t j 0 hn hj) kw_230 kw_232 kw_1 kw_18 kw_233 (by decide +kernel) (rl_ok (by omega) (by decide)) hF hz hS (q0 := 10) rfl rfl rfl hl.1 rfl (Nat.le_of_ble_eq_true rfl) dX8_bake_2 ⟨Nat.le_refl 0, Nat.le_refl 0⟩) hS (fun o_1 w1 H locs hw1 hS => ?_)
  obtain ⟨rfl, rfl⟩ := hw1
  refine lv_astore_n (lv' := [(3, .ref (ad j)), (0, .ref (A 0)), (1, .int (nI j)), (2, .int o)]) hx hb dX8_bake_5 rfl hl (by decide) rfl (fun ls hl => ?_)
  refine lv_aload_n hx hb dX8_bake_6 rfl (lv_at hl 0 rfl) ?_
  refine lv_ifnull hx hb dX8_bake_7 ?_
  refine lv_aload_n hx hb dX8_bake_10 rfl (lv_at hl 1 rfl) ?_
  refine lv_iload_n hx hb dX8_bake_11 rfl (lv_at hl 3 rfl) ?_
  refine m_ci (m_runV (n := 1) (rest := []) ⟨hx, hb, hml, hown, hG⟩ (c_isOven l X q A n ad g wm dy tl hs t o 0) kw_393 kw_395 kw_2 kw_18 kw_396 (by decide +kernel) (rl_ok (by omega) (by decide)) hF hz hS (q0 := 10) rfl rfl rfl hl.1 rfl (Nat.le_of_ble_eq_true rfl) dX8_bake_12 ⟨Nat.le_refl 0, Nat.le_refl 0⟩) hS (fun r_2 w2 H locs hw2 hS => ?_)
  obtain ⟨rfl, rfl⟩ := hw2
  refine lv_if_ne (tgt := 21) hx hb dX8_bake_15 (by decide) (fun c_3 => absurd (h0) c_3) (fun c_3 => ?_)
  refine lv_bipush (v := -2) hx hb dX8_bake_18 (by decide) ?_
  exact m_iret hx hb hr hlk hS (⟨rfl, rfl⟩) (Nat.le_refl 0) (Nat.le_refl 0) dX8_bake_20
set_option maxHeartbeats 4000000 in
set_option maxRecDepth 100000 in
theorem c_bake_no (l : Launch) (X : Cx) (q : Nat → Nat × va_E) (A : Nat → Nat) (n : Nat) (ad : Nat → Nat) (g : Nat → Rc) (wm dy tl : Int32) (hs : Nat → Int32) (t : Tr) (j f : Nat) (hn : n ≤ 40) (hkd : ∀ i, i < n → kd (g i) < 7) (hj : j < n) (o : Nat) (ho : o < 3) (hf : 5 ≤ f) (h0 : ¬ g j 3 = 0 ∨ ¬ needV (kd (g j)) (g j 1) ≤ g j 4) : cI l yX8_bake cX8_bake 5 (some .int) (rl f) X [.ref (A 0), .int (nI j), .int (nI o)] (wT X (kC q A n ad g wm dy tl hs) false t) (fun r w' => r = -3 ∧ w' = wT X (kC q A n ad g wm dy tl hs) false t) := by
  refine met_start (by decide) (Nat.le_of_ble_eq_true rfl) ?_
  intro p e s m below meth c ls fx hS hl
  obtain ⟨hx, hb, hr, hml, hown, hG, hlk, hF, hz, hnm⟩ := fx
  have hown : s.vm.findClass RX8 = some m.cls := hown
  have hl : lv_has ls 5 [(0, .ref (A 0)), (1, .int (nI j)), (2, .int (nI o))] := hl
  refine lv_aload_n hx hb dX8_bake_0 rfl (lv_at hl 0 rfl) ?_
  refine lv_iload_n hx hb dX8_bake_1 rfl (lv_at hl 1 rfl) ?_
  refine m_cq (m_runV (n := 1) (rest := []) ⟨hx, hb, hml, hown, hG⟩ (c_find l X q A n ad g wm dy tl hs t j 0 hn hj) kw_230 kw_232 kw_1 kw_18 kw_233 (by decide +kernel) (rl_ok (by omega) (by decide)) hF hz hS (q0 := 10) rfl rfl rfl hl.1 rfl (Nat.le_of_ble_eq_true rfl) dX8_bake_2 ⟨Nat.le_refl 0, Nat.le_refl 0⟩) hS (fun o_1 w1 H locs hw1 hS => ?_)
  obtain ⟨rfl, rfl⟩ := hw1
  refine lv_astore_n (lv' := [(3, .ref (ad j)), (0, .ref (A 0)), (1, .int (nI j)), (2, .int (nI o))]) hx hb dX8_bake_5 rfl hl (by decide) rfl (fun ls hl => ?_)
  refine lv_aload_n hx hb dX8_bake_6 rfl (lv_at hl 0 rfl) ?_
  refine lv_ifnull hx hb dX8_bake_7 ?_
  refine lv_aload_n hx hb dX8_bake_10 rfl (lv_at hl 1 rfl) ?_
  refine lv_iload_n hx hb dX8_bake_11 rfl (lv_at hl 3 rfl) ?_
  refine m_ci (m_runV (n := 1) (rest := []) ⟨hx, hb, hml, hown, hG⟩ (c_isOven l X q A n ad g wm dy tl hs t (nI o) 0) kw_393 kw_395 kw_2 kw_18 kw_396 (by decide +kernel) (rl_ok (by omega) (by decide)) hF hz hS (q0 := 10) rfl rfl rfl hl.1 rfl (Nat.le_of_ble_eq_true rfl) dX8_bake_12 ⟨Nat.le_refl 0, Nat.le_refl 0⟩) hS (fun r_2 w2 H locs hw2 hS => ?_)
  obtain ⟨rfl, rfl⟩ := hw2
  refine lv_if_ne (tgt := 21) hx hb dX8_bake_15 (by decide) (fun c_3 => ?_) (fun c_3 => absurd c_3 (by rw [ovB_yes ho]; decide))
  refine lv_aload_n hx hb dX8_bake_21 rfl (lv_at hl 0 rfl) ?_
  refine m_get (v := .int (g j 3)) hx hb hG hown hF hS (j + 15) (kC_at hj) (kd_cls (hkd j hj)).1 (kd_cls (hkd j hj)).2 3 (by decide) kw_116 (fun _ h9 => h9) rfl dX8_bake_22 ?_
  refine lv_if_ne (tgt := 39) hx hb dX8_bake_25 (by decide) (fun c_4 => ?_) (fun c_4 => ?_)
  · refine lv_bipush (v := -3) hx hb dX8_bake_39 (by decide) ?_
    exact m_iret hx hb hr hlk hS (⟨rfl, rfl⟩) (Nat.le_refl 0) (Nat.le_refl 0) dX8_bake_41
  · refine lv_aload_n hx hb dX8_bake_28 rfl (lv_at hl 0 rfl) ?_
    refine m_get (v := .int (g j 4)) hx hb hG hown hF hS (j + 15) (kC_at hj) (kd_cls (hkd j hj)).1 (kd_cls (hkd j hj)).2 4 (by decide) kw_118 (fun _ h9 => h9) rfl dX8_bake_29 ?_
    refine lv_aload_n hx hb dX8_bake_32 rfl (lv_at hl 0 rfl) ?_
    refine m_ci (m_runU (x := yX2_need) (owner := "DoughRoom$Dough") (n := 0) (rest := [.int (g j 4)]) ⟨hx, hb, hml, hown, hG⟩ (f_need l X (kC q A n ad g wm dy tl hs) false t (ad j) j (g j) (kd (g j)) 4 (kC_hi hj) rfl (Nat.zero_le _) (hkd j hj) (by decide) tR.f) kw_273 kw_276 kw_274 kw_296 (fam_need (kd (g j)) (Nat.zero_le _) (hkd j hj)).2.1 (fam_need (kd (g j)) (Nat.zero_le _) (hkd j hj)).1 (fam_need (kd (g j)) (Nat.zero_le _) (hkd j hj)).2.2.1 (fam_need (kd (g j)) (Nat.zero_le _) (hkd j hj)).2.2.2.1 (by decide +kernel) (rl_ok (by omega) (fam_need (kd (g j)) (Nat.zero_le _) (hkd j hj)).2.2.2.2) hF hz hS (q0 := j + 15) (kC_at hj) (kd_cls (hkd j hj)).1 rfl hl.1 rfl (Nat.le_of_ble_eq_true rfl) dX8_bake_33 ⟨Nat.le_refl 0, Nat.le_refl 0⟩) hS (fun r_5 w3 H locs hw3 hS => ?_)
    obtain ⟨rfl, rfl⟩ := hw3
    refine lv_icmp_ge (tgt := 42) hx hb dX8_bake_36 (by decide) (fun c_6 => absurd c_6 (h0.resolve_left (fun q => q c_4))) (fun c_6 => ?_)
    refine lv_bipush (v := -3) hx hb dX8_bake_39 (by decide) ?_
    exact m_iret hx hb hr hlk hS (⟨rfl, rfl⟩) (Nat.le_refl 0) (Nat.le_refl 0) dX8_bake_41
set_option maxHeartbeats 4000000 in
set_option maxRecDepth 100000 in
theorem c_bake_full (l : Launch) (X : Cx) (q : Nat → Nat × va_E) (A : Nat → Nat) (n : Nat) (ad : Nat → Nat) (g : Nat → Rc) (wm dy tl : Int32) (hs : Nat → Int32) (t : Tr) (j f : Nat) (hn : n ≤ 40) (hkd : ∀ i, i < n → kd (g i) < 7) (hj : j < n) (o : Nat) (ho : o < 3) (hf : 5 ≤ f) (h0 : g j 3 = 0) (h1 : needV (kd (g j)) (g j 1) ≤ g j 4) (h2 : ¬ masm g (nI o) n + g j 1 ≤ 800) : cI l yX8_bake cX8_bake 5 (some .int) (rl f) X [.ref (A 0), .int (nI j), .int (nI o)] (wT X (kC q A n ad g wm dy tl hs) false t) (fun r w' => r = -4 ∧ w' = wT X (kC q A n ad g wm dy tl hs) false t) := by
  refine met_start (by decide) (Nat.le_of_ble_eq_true rfl) ?_
  intro p e s m below meth c ls fx hS hl
  obtain ⟨hx, hb, hr, hml, hown, hG, hlk, hF, hz, hnm⟩ := fx
  have hown : s.vm.findClass RX8 = some m.cls := hown
  have hl : lv_has ls 5 [(0, .ref (A 0)), (1, .int (nI j)), (2, .int (nI o))] := hl
  refine lv_aload_n hx hb dX8_bake_0 rfl (lv_at hl 0 rfl) ?_
  refine lv_iload_n hx hb dX8_bake_1 rfl (lv_at hl 1 rfl) ?_
  refine m_cq (m_runV (n := 1) (rest := []) ⟨hx, hb, hml, hown, hG⟩ (c_find l X q A n ad g wm dy tl hs t j 0 hn hj) kw_230 kw_232 kw_1 kw_18 kw_233 (by decide +kernel) (rl_ok (by omega) (by decide)) hF hz hS (q0 := 10) rfl rfl rfl hl.1 rfl (Nat.le_of_ble_eq_true rfl) dX8_bake_2 ⟨Nat.le_refl 0, Nat.le_refl 0⟩) hS (fun o_1 w1 H locs hw1 hS => ?_)
  obtain ⟨rfl, rfl⟩ := hw1
  refine lv_astore_n (lv' := [(3, .ref (ad j)), (0, .ref (A 0)), (1, .int (nI j)), (2, .int (nI o))]) hx hb dX8_bake_5 rfl hl (by decide) rfl (fun ls hl => ?_)
  refine lv_aload_n hx hb dX8_bake_6 rfl (lv_at hl 0 rfl) ?_
  refine lv_ifnull hx hb dX8_bake_7 ?_
  refine lv_aload_n hx hb dX8_bake_10 rfl (lv_at hl 1 rfl) ?_
  refine lv_iload_n hx hb dX8_bake_11 rfl (lv_at hl 3 rfl) ?_
  refine m_ci (m_runV (n := 1) (rest := []) ⟨hx, hb, hml, hown, hG⟩ (c_isOven l X q A n ad g wm dy tl hs t (nI o) 0) kw_393 kw_395 kw_2 kw_18 kw_396 (by decide +kernel) (rl_ok (by omega) (by decide)) hF hz hS (q0 := 10) rfl rfl rfl hl.1 rfl (Nat.le_of_ble_eq_true rfl) dX8_bake_12 ⟨Nat.le_refl 0, Nat.le_refl 0⟩) hS (fun r_2 w2 H locs hw2 hS => ?_)
  obtain ⟨rfl, rfl⟩ := hw2
  refine lv_if_ne (tgt := 21) hx hb dX8_bake_15 (by decide) (fun c_3 => ?_) (fun c_3 => absurd c_3 (by rw [ovB_yes ho]; decide))
  refine lv_aload_n hx hb dX8_bake_21 rfl (lv_at hl 0 rfl) ?_
  refine m_get (v := .int (g j 3)) hx hb hG hown hF hS (j + 15) (kC_at hj) (kd_cls (hkd j hj)).1 (kd_cls (hkd j hj)).2 3 (by decide) kw_116 (fun _ h9 => h9) rfl dX8_bake_22 ?_
  refine lv_if_ne (tgt := 39) hx hb dX8_bake_25 (by decide) (fun c_4 => absurd (h0) c_4) (fun c_4 => ?_)
  refine lv_aload_n hx hb dX8_bake_28 rfl (lv_at hl 0 rfl) ?_
  refine m_get (v := .int (g j 4)) hx hb hG hown hF hS (j + 15) (kC_at hj) (kd_cls (hkd j hj)).1 (kd_cls (hkd j hj)).2 4 (by decide) kw_118 (fun _ h9 => h9) rfl dX8_bake_29 ?_
  refine lv_aload_n hx hb dX8_bake_32 rfl (lv_at hl 0 rfl) ?_
  refine m_ci (m_runU (x := yX2_need) (owner := "DoughRoom$Dough") (n := 0) (rest := [.int (g j 4)]) ⟨hx, hb, hml, hown, hG⟩ (f_need l X (kC q A n ad g wm dy tl hs) false t (ad j) j (g j) (kd (g j)) 4 (kC_hi hj) rfl (Nat.zero_le _) (hkd j hj) (by decide) tR.f) kw_273 kw_276 kw_274 kw_296 (fam_need (kd (g j)) (Nat.zero_le _) (hkd j hj)).2.1 (fam_need (kd (g j)) (Nat.zero_le _) (hkd j hj)).1 (fam_need (kd (g j)) (Nat.zero_le _) (hkd j hj)).2.2.1 (fam_need (kd (g j)) (Nat.zero_le _) (hkd j hj)).2.2.2.1 (by decide +kernel) (rl_ok (by omega) (fam_need (kd (g j)) (Nat.zero_le _) (hkd j hj)).2.2.2.2) hF hz hS (q0 := j + 15) (kC_at hj) (kd_cls (hkd j hj)).1 rfl hl.1 rfl (Nat.le_of_ble_eq_true rfl) dX8_bake_33 ⟨Nat.le_refl 0, Nat.le_refl 0⟩) hS (fun r_5 w3 H locs hw3 hS => ?_)
  obtain ⟨rfl, rfl⟩ := hw3
  refine lv_icmp_ge (tgt := 42) hx hb dX8_bake_36 (by decide) (fun c_6 => ?_) (fun c_6 => absurd (h1) c_6)
  refine lv_aload_n hx hb dX8_bake_42 rfl (lv_at hl 1 rfl) ?_
  refine lv_iload_n hx hb dX8_bake_43 rfl (lv_at hl 3 rfl) ?_
  refine m_ci (m_runV (n := 1) (rest := []) ⟨hx, hb, hml, hown, hG⟩ (c_massIn l X q A n ad g wm dy tl hs t (nI o) 0 hn hkd) kw_438 kw_440 kw_5 kw_18 kw_441 (by decide +kernel) (rl_ok (by omega) (by decide)) hF hz hS (q0 := 10) rfl rfl rfl hl.1 rfl (Nat.le_of_ble_eq_true rfl) dX8_bake_44 ⟨Nat.le_refl 0, Nat.le_refl 0⟩) hS (fun r_7 w4 H locs hw4 hS => ?_)
  obtain ⟨rfl, rfl⟩ := hw4
  refine lv_aload_n hx hb dX8_bake_47 rfl (lv_at hl 0 rfl) ?_
  refine m_get (v := .int (g j 1)) hx hb hG hown hF hS (j + 15) (kC_at hj) (kd_cls (hkd j hj)).1 (kd_cls (hkd j hj)).2 1 (by decide) kw_101 (fun _ h9 => h9) rfl dX8_bake_48 ?_
  refine lv_iadd hx hb dX8_bake_51 ?_
  refine lv_istore (lv' := [(4, .int ((masm g (nI o) n) + (g j 1))), (3, .ref (ad j)), (0, .ref (A 0)), (1, .int (nI j)), (2, .int (nI o))]) hx hb dX8_bake_52 hl (by decide) rfl (fun ls hl => ?_)
  refine lv_iload hx hb dX8_bake_54 (lv_at hl 0 rfl) ?_
  refine lv_sipush (v := 800) hx hb dX8_bake_56 (by decide) ?_
  refine lv_icmp_le (tgt := 65) hx hb dX8_bake_59 (by decide) (fun c_8 => absurd c_8 (h2)) (fun c_8 => ?_)
  refine lv_bipush (v := -4) hx hb dX8_bake_62 (by decide) ?_
  exact m_iret hx hb hr hlk hS (⟨rfl, rfl⟩) (Nat.le_refl 0) (Nat.le_refl 0) dX8_bake_64
set_option maxHeartbeats 4000000 in
set_option maxRecDepth 100000 in
theorem c_bake (l : Launch) (X : Cx) (q : Nat → Nat × va_E) (A : Nat → Nat) (n : Nat) (ad : Nat → Nat) (g : Nat → Rc) (wm dy tl : Int32) (hs : Nat → Int32) (t : Tr) (j f : Nat) (hn : n ≤ 40) (hkd : ∀ i, i < n → kd (g i) < 7) (hj : j < n) (o : Nat) (ho : o < 3) (hf : 5 ≤ f) (h0 : g j 3 = 0) (h1 : needV (kd (g j)) (g j 1) ≤ g j 4) (h2 : masm g (nI o) n + g j 1 ≤ 800) : cI l yX8_bake cX8_bake 5 (some .int) (rl f) X [.ref (A 0), .int (nI j), .int (nI o)] (wT X (kC q A n ad g wm dy tl hs) false t) (fun r w' => r = masm g (nI o) n + g j 1 ∧ w' = wT X (kC q A n ad (va_up g j (va_up (va_up (g j) 3 1) 6 (nI o))) wm dy tl hs) false t) := by
  refine met_start (by decide) (Nat.le_of_ble_eq_true rfl) ?_
  intro p e s m below meth c ls fx hS hl
  obtain ⟨hx, hb, hr, hml, hown, hG, hlk, hF, hz, hnm⟩ := fx
  have hown : s.vm.findClass RX8 = some m.cls := hown
  have hl : lv_has ls 5 [(0, .ref (A 0)), (1, .int (nI j)), (2, .int (nI o))] := hl
  refine lv_aload_n hx hb dX8_bake_0 rfl (lv_at hl 0 rfl) ?_
  refine lv_iload_n hx hb dX8_bake_1 rfl (lv_at hl 1 rfl) ?_
  refine m_cq (m_runV (n := 1) (rest := []) ⟨hx, hb, hml, hown, hG⟩ (c_find l X q A n ad g wm dy tl hs t j 0 hn hj) kw_230 kw_232 kw_1 kw_18 kw_233 (by decide +kernel) (rl_ok (by omega) (by decide)) hF hz hS (q0 := 10) rfl rfl rfl hl.1 rfl (Nat.le_of_ble_eq_true rfl) dX8_bake_2 ⟨Nat.le_refl 0, Nat.le_refl 0⟩) hS (fun o_1 w1 H locs hw1 hS => ?_)
  obtain ⟨rfl, rfl⟩ := hw1
  refine lv_astore_n (lv' := [(3, .ref (ad j)), (0, .ref (A 0)), (1, .int (nI j)), (2, .int (nI o))]) hx hb dX8_bake_5 rfl hl (by decide) rfl (fun ls hl => ?_)
  refine lv_aload_n hx hb dX8_bake_6 rfl (lv_at hl 0 rfl) ?_
  refine lv_ifnull hx hb dX8_bake_7 ?_
  refine lv_aload_n hx hb dX8_bake_10 rfl (lv_at hl 1 rfl) ?_
  refine lv_iload_n hx hb dX8_bake_11 rfl (lv_at hl 3 rfl) ?_
  refine m_ci (m_runV (n := 1) (rest := []) ⟨hx, hb, hml, hown, hG⟩ (c_isOven l X q A n ad g wm dy tl hs t (nI o) 0) kw_393 kw_395 kw_2 kw_18 kw_396 (by decide +kernel) (rl_ok (by omega) (by decide)) hF hz hS (q0 := 10) rfl rfl rfl hl.1 rfl (Nat.le_of_ble_eq_true rfl) dX8_bake_12 ⟨Nat.le_refl 0, Nat.le_refl 0⟩) hS (fun r_2 w2 H locs hw2 hS => ?_)
  obtain ⟨rfl, rfl⟩ := hw2
  refine lv_if_ne (tgt := 21) hx hb dX8_bake_15 (by decide) (fun c_3 => ?_) (fun c_3 => absurd c_3 (by rw [ovB_yes ho]; decide))
  refine lv_aload_n hx hb dX8_bake_21 rfl (lv_at hl 0 rfl) ?_
  refine m_get (v := .int (g j 3)) hx hb hG hown hF hS (j + 15) (kC_at hj) (kd_cls (hkd j hj)).1 (kd_cls (hkd j hj)).2 3 (by decide) kw_116 (fun _ h9 => h9) rfl dX8_bake_22 ?_
  refine lv_if_ne (tgt := 39) hx hb dX8_bake_25 (by decide) (fun c_4 => absurd (h0) c_4) (fun c_4 => ?_)
  refine lv_aload_n hx hb dX8_bake_28 rfl (lv_at hl 0 rfl) ?_
  refine m_get (v := .int (g j 4)) hx hb hG hown hF hS (j + 15) (kC_at hj) (kd_cls (hkd j hj)).1 (kd_cls (hkd j hj)).2 4 (by decide) kw_118 (fun _ h9 => h9) rfl dX8_bake_29 ?_
  refine lv_aload_n hx hb dX8_bake_32 rfl (lv_at hl 0 rfl) ?_
  refine m_ci (m_runU (x := yX2_need) (owner := "DoughRoom$Dough") (n := 0) (rest := [.int (g j 4)]) ⟨hx, hb, hml, hown, hG⟩ (f_need l X (kC q A n ad g wm dy tl hs) false t (ad j) j (g j) (kd (g j)) 4 (kC_hi hj) rfl (Nat.zero_le _) (hkd j hj) (by decide) tR.f) kw_273 kw_276 kw_274 kw_296 (fam_need (kd (g j)) (Nat.zero_le _) (hkd j hj)).2.1 (fam_need (kd (g j)) (Nat.zero_le _) (hkd j hj)).1 (fam_need (kd (g j)) (Nat.zero_le _) (hkd j hj)).2.2.1 (fam_need (kd (g j)) (Nat.zero_le _) (hkd j hj)).2.2.2.1 (by decide +kernel) (rl_ok (by omega) (fam_need (kd (g j)) (Nat.zero_le _) (hkd j hj)).2.2.2.2) hF hz hS (q0 := j + 15) (kC_at hj) (kd_cls (hkd j hj)).1 rfl hl.1 rfl (Nat.le_of_ble_eq_true rfl) dX8_bake_33 ⟨Nat.le_refl 0, Nat.le_refl 0⟩) hS (fun r_5 w3 H locs hw3 hS => ?_)
  obtain ⟨rfl, rfl⟩ := hw3
  refine lv_icmp_ge (tgt := 42) hx hb dX8_bake_36 (by decide) (fun c_6 => ?_) (fun c_6 => absurd (h1) c_6)
  refine lv_aload_n hx hb dX8_bake_42 rfl (lv_at hl 1 rfl) ?_
  refine lv_iload_n hx hb dX8_bake_43 rfl (lv_at hl 3 rfl) ?_
  refine m_ci (m_runV (n := 1) (rest := []) ⟨hx, hb, hml, hown, hG⟩ (c_massIn l X q A n ad g wm dy tl hs t (nI o) 0 hn hkd) kw_438 kw_440 kw_5 kw_18 kw_441 (by decide +kernel) (rl_ok (by omega) (by decide)) hF hz hS (q0 := 10) rfl rfl rfl hl.1 rfl (Nat.le_of_ble_eq_true rfl) dX8_bake_44 ⟨Nat.le_refl 0, Nat.le_refl 0⟩) hS (fun r_7 w4 H locs hw4 hS => ?_)
  obtain ⟨rfl, rfl⟩ := hw4
  refine lv_aload_n hx hb dX8_bake_47 rfl (lv_at hl 0 rfl) ?_
  refine m_get (v := .int (g j 1)) hx hb hG hown hF hS (j + 15) (kC_at hj) (kd_cls (hkd j hj)).1 (kd_cls (hkd j hj)).2 1 (by decide) kw_101 (fun _ h9 => h9) rfl dX8_bake_48 ?_
  refine lv_iadd hx hb dX8_bake_51 ?_
  refine lv_istore (lv' := [(4, .int ((masm g (nI o) n) + (g j 1))), (3, .ref (ad j)), (0, .ref (A 0)), (1, .int (nI j)), (2, .int (nI o))]) hx hb dX8_bake_52 hl (by decide) rfl (fun ls hl => ?_)
  refine lv_iload hx hb dX8_bake_54 (lv_at hl 0 rfl) ?_
  refine lv_sipush (v := 800) hx hb dX8_bake_56 (by decide) ?_
  refine lv_icmp_le (tgt := 65) hx hb dX8_bake_59 (by decide) (fun c_8 => ?_) (fun c_8 => absurd (h2) c_8)
  refine lv_aload_n hx hb dX8_bake_65 rfl (lv_at hl 1 rfl) ?_
  refine lv_iconst (v := 1) hx hb dX8_bake_66 (by decide) ?_
  refine m_put hx hb hG hown hF hS (j + 15) (kC_at hj) (kd_cls (hkd j hj)).1 (kd_cls (hkd j hj)).2 tyX2_ok nmX2 3 (by decide) kw_116 (fun _ h9 => h9) rfl rfl rfl (Nat.le_of_ble_eq_true rfl) (wT X (kC q A n ad (va_up g j (va_up (g j) 3 1)) wm dy tl hs) false t) (wC_set (rc := va_up (g j) 3 1) hj) dX8_bake_67 (fun H locs hS => ?_)
  refine lv_aload_n hx hb dX8_bake_70 rfl (lv_at hl 1 rfl) ?_
  refine lv_iload_n hx hb dX8_bake_71 rfl (lv_at hl 4 rfl) ?_
  refine m_put hx hb hG hown hF hS (j + 15) (kC_at2 hj) (kd_cls (hkd j hj)).1 (kd_cls (hkd j hj)).2 tyX2_ok nmX2 6 (by decide) kw_121 (fun _ h9 => h9) rfl rfl rfl (Nat.le_of_ble_eq_true rfl) (wT X (kC q A n ad (va_up g j (va_up (va_up (g j) 3 1) 6 (nI o))) wm dy tl hs) false t) (wC_set2 (rc := va_up (va_up (g j) 3 1) 6 (nI o)) hj) dX8_bake_72 (fun H locs hS => ?_)
  refine lv_iload hx hb dX8_bake_75 (lv_at hl 0 rfl) ?_
  exact m_iret hx hb hr hlk hS (⟨rfl, rfl⟩) (Nat.le_refl 0) (Nat.le_refl 0) dX8_bake_77
set_option maxHeartbeats 4000000 in
set_option maxRecDepth 100000 in
theorem c_sell_no (l : Launch) (X : Cx) (q : Nat → Nat × va_E) (A : Nat → Nat) (n : Nat) (ad : Nat → Nat) (g : Nat → Rc) (wm dy tl : Int32) (hs : Nat → Int32) (t : Tr) (j f : Nat) (hn : n ≤ 40) (hkd : ∀ i, i < n → kd (g i) < 7) (hj : j < n) (hf : 1 ≤ f) (h0 : ¬ g j 3 = 2) : cI l yX8_sell cX8_sell 5 (some .int) (rl f) X [.ref (A 0), .int (nI j)] (wT X (kC q A n ad g wm dy tl hs) false t) (fun r w' => r = -3 ∧ w' = wT X (kC q A n ad g wm dy tl hs) false t) := by
  refine met_start (by decide) (Nat.le_of_ble_eq_true rfl) ?_
  intro p e s m below meth c ls fx hS hl
  obtain ⟨hx, hb, hr, hml, hown, hG, hlk, hF, hz, hnm⟩ := fx
  have hown : s.vm.findClass RX8 = some m.cls := hown
  have hl : lv_has ls 5 [(0, .ref (A 0)), (1, .int (nI j))] := hl
  refine lv_aload_n hx hb dX8_sell_0 rfl (lv_at hl 0 rfl) ?_
  refine lv_iload_n hx hb dX8_sell_1 rfl (lv_at hl 1 rfl) ?_
  refine m_cq (m_runV (n := 1) (rest := []) ⟨hx, hb, hml, hown, hG⟩ (c_find l X q A n ad g wm dy tl hs t j 0 hn hj) kw_230 kw_232 kw_1 kw_18 kw_233 (by decide +kernel) (rl_ok (by omega) (by decide)) hF hz hS (q0 := 10) rfl rfl rfl hl.1 rfl (Nat.le_of_ble_eq_true rfl) dX8_sell_2 ⟨Nat.le_refl 0, Nat.le_refl 0⟩) hS (fun o_1 w1 H locs hw1 hS => ?_)
  obtain ⟨rfl, rfl⟩ := hw1
  refine lv_astore_n (lv' := [(2, .ref (ad j)), (0, .ref (A 0)), (1, .int (nI j))]) hx hb dX8_sell_5 rfl hl (by decide) rfl (fun ls hl => ?_)
  refine lv_aload_n hx hb dX8_sell_6 rfl (lv_at hl 0 rfl) ?_
  refine lv_ifnonnull (tgt := 13) hx hb dX8_sell_7 (by decide) ?_
  refine lv_aload_n hx hb dX8_sell_13 rfl (lv_at hl 0 rfl) ?_
  refine m_get (v := .int (g j 3)) hx hb hG hown hF hS (j + 15) (kC_at hj) (kd_cls (hkd j hj)).1 (kd_cls (hkd j hj)).2 3 (by decide) kw_116 (fun _ h9 => h9) rfl dX8_sell_14 ?_
  refine lv_iconst (v := 2) hx hb dX8_sell_17 (by decide) ?_
  refine lv_icmp_eq (tgt := 24) hx hb dX8_sell_18 (by decide) (fun c_2 => absurd c_2 (h0)) (fun c_2 => ?_)
  refine lv_bipush (v := -3) hx hb dX8_sell_21 (by decide) ?_
  exact m_iret hx hb hr hlk hS (⟨rfl, rfl⟩) (Nat.le_refl 0) (Nat.le_refl 0) dX8_sell_23
/-- what one that is done is worth, before the days are taken off -/
def worth (rc : Rc) : Int32 := if 5 ≤ kd rc then priceV (kd rc) (rc 1) + glazeV (kd rc) (rc 1) else priceV (kd rc) (rc 1)
def sellV (dy : Int32) (rc : Rc) : Int32 := if 1 < worth rc - (dy - rc 7) then worth rc - (dy - rc 7) else 1
set_option maxHeartbeats 4000000 in
set_option maxRecDepth 100000 in
theorem c_sell (l : Launch) (X : Cx) (q : Nat → Nat × va_E) (A : Nat → Nat) (n : Nat) (ad : Nat → Nat) (g : Nat → Rc) (wm dy tl : Int32) (hs : Nat → Int32) (t : Tr) (j f : Nat) (hn : n ≤ 40) (hkd : ∀ i, i < n → kd (g i) < 7) (hj : j < n) (hf : 7 ≤ f) (h0 : g j 3 = 2) : cI l yX8_sell cX8_sell 5 (some .int) (rl f) X [.ref (A 0), .int (nI j)] (wT X (kC q A n ad g wm dy tl hs) false t) (fun r w' => r = sellV dy (g j) ∧ w' = wT X (kC q A n ad (va_up g j (va_up (g j) 3 3)) wm dy (tl + sellV dy (g j)) hs) false t) := by
  refine met_start (by decide) (Nat.le_of_ble_eq_true rfl) ?_
  intro p e s m below meth c ls fx hS hl
  obtain ⟨hx, hb, hr, hml, hown, hG, hlk, hF, hz, hnm⟩ := fx
  have hown : s.vm.findClass RX8 = some m.cls := hown
  have hl : lv_has ls 5 [(0, .ref (A 0)), (1, .int (nI j))] := hl
  refine lv_aload_n hx hb dX8_sell_0 rfl (lv_at hl 0 rfl) ?_
  refine lv_iload_n hx hb dX8_sell_1 rfl (lv_at hl 1 rfl) ?_
  refine m_cq (m_runV (n := 1) (rest := []) ⟨hx, hb, hml, hown, hG⟩ (c_find l X q A n ad g wm dy tl hs t j 0 hn hj) kw_230 kw_232 kw_1 kw_18 kw_233 (by decide +kernel) (rl_ok (by omega) (by decide)) hF hz hS (q0 := 10) rfl rfl rfl hl.1 rfl (Nat.le_of_ble_eq_true rfl) dX8_sell_2 ⟨Nat.le_refl 0, Nat.le_refl 0⟩) hS (fun o_1 w1 H locs hw1 hS => ?_)
  obtain ⟨rfl, rfl⟩ := hw1
  refine lv_astore_n (lv' := [(2, .ref (ad j)), (0, .ref (A 0)), (1, .int (nI j))]) hx hb dX8_sell_5 rfl hl (by decide) rfl (fun ls hl => ?_)
  refine lv_aload_n hx hb dX8_sell_6 rfl (lv_at hl 0 rfl) ?_
  refine lv_ifnonnull (tgt := 13) hx hb dX8_sell_7 (by decide) ?_
  refine lv_aload_n hx hb dX8_sell_13 rfl (lv_at hl 0 rfl) ?_
  refine m_get (v := .int (g j 3)) hx hb hG hown hF hS (j + 15) (kC_at hj) (kd_cls (hkd j hj)).1 (kd_cls (hkd j hj)).2 3 (by decide) kw_116 (fun _ h9 => h9) rfl dX8_sell_14 ?_
  refine lv_iconst (v := 2) hx hb dX8_sell_17 (by decide) ?_
  refine lv_icmp_eq (tgt := 24) hx hb dX8_sell_18 (by decide) (fun c_2 => ?_) (fun c_2 => absurd (h0) c_2)
  refine lv_aload_n hx hb dX8_sell_24 rfl (lv_at hl 0 rfl) ?_
  refine m_ci (m_runU (x := yX2_price) (owner := "DoughRoom$Dough") (n := 0) (rest := []) ⟨hx, hb, hml, hown, hG⟩ (f_price l X (kC q A n ad g wm dy tl hs) false t (ad j) j (g j) (kd (g j)) 5 (kC_hi hj) rfl (Nat.zero_le _) (hkd j hj) (by decide) tR.f) kw_317 kw_320 kw_318 kw_343 (fam_price (kd (g j)) (Nat.zero_le _) (hkd j hj)).2.1 (fam_price (kd (g j)) (Nat.zero_le _) (hkd j hj)).1 (fam_price (kd (g j)) (Nat.zero_le _) (hkd j hj)).2.2.1 (fam_price (kd (g j)) (Nat.zero_le _) (hkd j hj)).2.2.2.1 (by decide +kernel) (rl_ok (by omega) (fam_price (kd (g j)) (Nat.zero_le _) (hkd j hj)).2.2.2.2) hF hz hS (q0 := j + 15) (kC_at hj) (kd_cls (hkd j hj)).1 rfl hl.1 rfl (Nat.le_of_ble_eq_true rfl) dX8_sell_25 ⟨Nat.le_refl 0, Nat.le_refl 0⟩) hS (fun r_3 w2 H locs hw2 hS => ?_)
  obtain ⟨rfl, rfl⟩ := hw2
  refine lv_istore_n (lv' := [(3, .int (priceV (kd (g j)) (g j 1))), (2, .ref (ad j)), (0, .ref (A 0)), (1, .int (nI j))]) hx hb dX8_sell_28 rfl hl (by decide) rfl (fun ls hl => ?_)
  refine lv_aload_n hx hb dX8_sell_29 rfl (lv_at hl 1 rfl) ?_
  by_cases h5 : 5 ≤ kd (g j)
  · refine m_instY hx hb hG hown hF hS (j + 15) (kC_at hj) (hkd j hj) kw_185 (hF.2.2.2.2.1 _ h5 (hkd j hj)) dX8_sell_30 ?_
    refine lv_if_eq (tgt := 50) hx hb dX8_sell_33 (by decide) (fun c_4 => absurd c_4 (by decide)) (fun c_4 => ?_)
    refine lv_aload_n hx hb dX8_sell_36 rfl (lv_at hl 1 rfl) ?_
    refine m_castY hx hb hG hown hF hS (j + 15) (kC_at hj) (hkd j hj) kw_185 (hF.2.2.2.2.1 _ h5 (hkd j hj)) dX8_sell_37 ?_
    refine lv_astore (lv' := [(4, .ref (ad j)), (3, .int (priceV (kd (g j)) (g j 1))), (2, .ref (ad j)), (0, .ref (A 0)), (1, .int (nI j))]) hx hb dX8_sell_40 hl (by decide) rfl (fun ls hl => ?_)
    refine lv_iload_n hx hb dX8_sell_42 rfl (lv_at hl 1 rfl) ?_
    refine lv_aload hx hb dX8_sell_43 (lv_at hl 0 rfl) ?_
    refine m_ci (m_runU (x := yX5_glaze) (owner := "DoughRoom$Sweet") (n := 0) (rest := [.int (priceV (kd (g j)) (g j 1))]) ⟨hx, hb, hml, hown, hG⟩ (f_glaze l X (kC q A n ad g wm dy tl hs) false t (ad j) j (g j) (kd (g j)) 6 (kC_hi hj) rfl h5 (hkd j hj) (by decide) tR.f) kw_358 kw_361 kw_359 kw_369 (fam_glaze (kd (g j)) h5 (hkd j hj)).2.1 (fam_glaze (kd (g j)) h5 (hkd j hj)).1 (fam_glaze (kd (g j)) h5 (hkd j hj)).2.2.1 (fam_glaze (kd (g j)) h5 (hkd j hj)).2.2.2.1 (by decide +kernel) (rl_ok (by omega) (fam_glaze (kd (g j)) h5 (hkd j hj)).2.2.2.2) hF hz hS (q0 := j + 15) (kC_at hj) (kd_cls (hkd j hj)).1 rfl hl.1 rfl (Nat.le_of_ble_eq_true rfl) dX8_sell_45 ⟨Nat.le_refl 0, Nat.le_refl 0⟩) hS (fun r_5 w3 H locs hw3 hS => ?_)
    obtain ⟨rfl, rfl⟩ := hw3
    refine lv_iadd hx hb dX8_sell_48 ?_
    refine lv_istore_n (lv' := [(3, .int ((priceV (kd (g j)) (g j 1)) + (glazeV (kd (g j)) (g j 1)))), (4, .ref (ad j)), (2, .ref (ad j)), (0, .ref (A 0)), (1, .int (nI j))]) hx hb dX8_sell_49 rfl hl (by decide) rfl (fun ls hl => ?_)
    refine lv_iconst (v := 1) hx hb dX8_sell_50 (by decide) ?_
    refine lv_iload_n hx hb dX8_sell_51 rfl (lv_at hl 0 rfl) ?_
    refine lv_aload_n hx hb dX8_sell_52 rfl (lv_at hl 3 rfl) ?_
    refine m_get (v := .int dy) hx hb hG hown hF hS (10) rfl rfl iG_8 5 (by decide) kw_61 (fun _ h9 => h9) rfl dX8_sell_53 ?_
    refine lv_aload_n hx hb dX8_sell_56 rfl (lv_at hl 2 rfl) ?_
    refine m_get (v := .int (g j 7)) hx hb hG hown hF hS (j + 15) (kC_at hj) (kd_cls (hkd j hj)).1 (kd_cls (hkd j hj)).2 7 (by decide) kw_122 (fun _ h9 => h9) rfl dX8_sell_57 ?_
    refine lv_isub hx hb dX8_sell_60 ?_
    refine lv_isub hx hb dX8_sell_61 ?_
    refine va_mmax hx hb (hml.trans hl.1.symm) hown (hG _ kw_450) (hG _ kw_451) (hG _ kw_28) (hG _ kw_452) (by show 1 ≤ f; omega) (by show 0 + 13 ≤ 27 * f; omega) (Nat.le_refl 0) (Nat.le_refl 0) dX8_sell_62 ?_
    rw [show priceV (kd (g j)) (g j 1) + glazeV (kd (g j)) (g j 1) = worth (g j) from by rw [worth, if_pos h5]]
    refine lv_topi (fun v9 ev9 => ?_)
    refine lv_istore (lv' := [(4, .int v9), (3, .int ((priceV (kd (g j)) (g j 1)) + (glazeV (kd (g j)) (g j 1)))), (2, .ref (ad j)), (0, .ref (A 0)), (1, .int (nI j))]) hx hb dX8_sell_65 hl (by decide) rfl (fun ls hl => ?_)
    refine lv_aload_n hx hb dX8_sell_67 rfl (lv_at hl 2 rfl) ?_
    refine lv_iconst (v := 3) hx hb dX8_sell_68 (by decide) ?_
    refine m_put hx hb hG hown hF hS (j + 15) (kC_at hj) (kd_cls (hkd j hj)).1 (kd_cls (hkd j hj)).2 tyX2_ok nmX2 3 (by decide) kw_116 (fun _ h9 => h9) rfl rfl rfl (Nat.le_of_ble_eq_true rfl) (wT X (kC q A n ad (va_up g j (va_up (g j) 3 3)) wm dy tl hs) false t) (wC_set (rc := va_up (g j) 3 3) hj) dX8_sell_69 (fun H locs hS => ?_)
    refine lv_aload_n hx hb dX8_sell_72 rfl (lv_at hl 3 rfl) ?_
    refine lv_dup hx hb dX8_sell_73 rfl ?_
    refine m_get (v := .int tl) hx hb hG hown hF hS (10) rfl rfl iG_8 6 (by decide) kw_62 (fun _ h9 => h9) rfl dX8_sell_74 ?_
    refine lv_iload hx hb dX8_sell_77 (lv_at hl 0 rfl) ?_
    refine lv_iadd hx hb dX8_sell_79 ?_
    refine m_put hx hb hG hown hF hS (10) rfl rfl iG_8 tyX8_ok nmX8 6 (by decide) kw_62 (fun _ h9 => h9) rfl rfl rfl (Nat.le_of_ble_eq_true rfl) (wT X (kC q A n ad (va_up g j (va_up (g j) 3 3)) wm dy (tl + v9) hs) false t) rfl dX8_sell_80 (fun H locs hS => ?_)
    refine lv_iload hx hb dX8_sell_83 (lv_at hl 0 rfl) ?_
    have ev9 : v9 = sellV dy (g j) := ev9
    exact m_iret hx hb hr hlk hS (⟨ev9, by rw [ev9]⟩) (Nat.le_refl 0) (Nat.le_refl 0) dX8_sell_85
  · refine m_instN hx hb hG hown hF hS (j + 15) (kC_at hj) (hkd j hj) kw_185 (hF.2.2.2.2.2.2.2 _ (Nat.lt_of_not_le h5)) dX8_sell_30 ?_
    refine lv_if_eq (tgt := 50) hx hb dX8_sell_33 (by decide) (fun c_4 => ?_) (fun c_4 => absurd (rfl) c_4)
    refine lv_iconst (v := 1) hx hb dX8_sell_50 (by decide) ?_
    refine lv_iload_n hx hb dX8_sell_51 rfl (lv_at hl 0 rfl) ?_
    refine lv_aload_n hx hb dX8_sell_52 rfl (lv_at hl 2 rfl) ?_
    refine m_get (v := .int dy) hx hb hG hown hF hS (10) rfl rfl iG_8 5 (by decide) kw_61 (fun _ h9 => h9) rfl dX8_sell_53 ?_
    refine lv_aload_n hx hb dX8_sell_56 rfl (lv_at hl 1 rfl) ?_
    refine m_get (v := .int (g j 7)) hx hb hG hown hF hS (j + 15) (kC_at hj) (kd_cls (hkd j hj)).1 (kd_cls (hkd j hj)).2 7 (by decide) kw_122 (fun _ h9 => h9) rfl dX8_sell_57 ?_
    refine lv_isub hx hb dX8_sell_60 ?_
    refine lv_isub hx hb dX8_sell_61 ?_
    refine va_mmax hx hb (hml.trans hl.1.symm) hown (hG _ kw_450) (hG _ kw_451) (hG _ kw_28) (hG _ kw_452) (by show 1 ≤ f; omega) (by show 0 + 13 ≤ 27 * f; omega) (Nat.le_refl 0) (Nat.le_refl 0) dX8_sell_62 ?_
    rw [show priceV (kd (g j)) (g j 1) = worth (g j) from by rw [worth, if_neg h5]]
    refine lv_topi (fun v9 ev9 => ?_)
    refine lv_istore (lv' := [(4, .int v9), (3, .int (priceV (kd (g j)) (g j 1))), (2, .ref (ad j)), (0, .ref (A 0)), (1, .int (nI j))]) hx hb dX8_sell_65 hl (by decide) rfl (fun ls hl => ?_)
    refine lv_aload_n hx hb dX8_sell_67 rfl (lv_at hl 2 rfl) ?_
    refine lv_iconst (v := 3) hx hb dX8_sell_68 (by decide) ?_
    refine m_put hx hb hG hown hF hS (j + 15) (kC_at hj) (kd_cls (hkd j hj)).1 (kd_cls (hkd j hj)).2 tyX2_ok nmX2 3 (by decide) kw_116 (fun _ h9 => h9) rfl rfl rfl (Nat.le_of_ble_eq_true rfl) (wT X (kC q A n ad (va_up g j (va_up (g j) 3 3)) wm dy tl hs) false t) (wC_set (rc := va_up (g j) 3 3) hj) dX8_sell_69 (fun H locs hS => ?_)
    refine lv_aload_n hx hb dX8_sell_72 rfl (lv_at hl 3 rfl) ?_
    refine lv_dup hx hb dX8_sell_73 rfl ?_
    refine m_get (v := .int tl) hx hb hG hown hF hS (10) rfl rfl iG_8 6 (by decide) kw_62 (fun _ h9 => h9) rfl dX8_sell_74 ?_
    refine lv_iload hx hb dX8_sell_77 (lv_at hl 0 rfl) ?_
    refine lv_iadd hx hb dX8_sell_79 ?_
    refine m_put hx hb hG hown hF hS (10) rfl rfl iG_8 tyX8_ok nmX8 6 (by decide) kw_62 (fun _ h9 => h9) rfl rfl rfl (Nat.le_of_ble_eq_true rfl) (wT X (kC q A n ad (va_up g j (va_up (g j) 3 3)) wm dy (tl + v9) hs) false t) rfl dX8_sell_80 (fun H locs hS => ?_)
    refine lv_iload hx hb dX8_sell_83 (lv_at hl 0 rfl) ?_
    have ev9 : v9 = sellV dy (g j) := ev9
    exact m_iret hx hb hr hlk hS (⟨ev9, by rw [ev9]⟩) (Nat.le_refl 0) (Nat.le_refl 0) dX8_sell_85
set_option maxHeartbeats 4000000 in
set_option maxRecDepth 100000 in
theorem c_ask_bad (l : Launch) (X : Cx) (q : Nat → Nat × va_E) (A : Nat → Nat) (n : Nat) (ad : Nat → Nat) (g : Nat → Rc) (wm dy tl : Int32) (hs : Nat → Int32) (t : Tr) (j f : Nat) (hn : n ≤ 40) (hkd : ∀ i, i < n → kd (g i) < 7) (hj : j < n) (wh w : Int32) (hf : 7 ≤ f) (h0 : qOk wh w = 0) : cI l yX8_ask cX8_ask 7 (some .int) (rl f) X [.ref (A 0), .int (nI j), .int wh, .int w] (wT X (kC q A n ad g wm dy tl hs) false t) (fun r w' => r = -2 ∧ w' = wT X (kC q A n ad g wm dy tl hs) false t) := by
  refine met_start (by decide) (Nat.le_of_ble_eq_true rfl) ?_
  intro p e s m below meth c ls fx hS hl
  obtain ⟨hx, hb, hr, hml, hown, hG, hlk, hF, hz, hnm⟩ := fx
  have hown : s.vm.findClass RX8 = some m.cls := hown
  have hl : lv_has ls 7 [(0, .ref (A 0)), (1, .int (nI j)), (2, .int wh), (3, .int w)] := hl
  refine lv_aload_n hx hb dX8_ask_0 rfl (lv_at hl 0 rfl) ?_
  refine lv_iload_n hx hb dX8_ask_1 rfl (lv_at hl 1 rfl) ?_
  refine m_cq (m_runV (n := 1) (rest := []) ⟨hx, hb, hml, hown, hG⟩ (c_find l X q A n ad g wm dy tl hs t j 0 hn hj) kw_230 kw_232 kw_1 kw_18 kw_233 (by decide +kernel) (rl_ok (by omega) (by decide)) hF hz hS (q0 := 10) rfl rfl rfl hl.1 rfl (Nat.le_of_ble_eq_true rfl) dX8_ask_2 ⟨Nat.le_refl 0, Nat.le_refl 0⟩) hS (fun o_1 w1 H locs hw1 hS => ?_)
  obtain ⟨rfl, rfl⟩ := hw1
  refine lv_astore (lv' := [(4, .ref (ad j)), (0, .ref (A 0)), (1, .int (nI j)), (2, .int wh), (3, .int w)]) hx hb dX8_ask_5 hl (by decide) rfl (fun ls hl => ?_)
  refine lv_aload hx hb dX8_ask_7 (lv_at hl 0 rfl) ?_
  refine lv_ifnull hx hb dX8_ask_9 ?_
  refine lv_iload_n hx hb dX8_ask_12 rfl (lv_at hl 3 rfl) ?_
  refine lv_iload_n hx hb dX8_ask_13 rfl (lv_at hl 4 rfl) ?_
  refine m_ci (m_runS (n := 2) (rest := []) ⟨hx, hb, hml, hown, hG⟩ (c_isQuestion l X (wT X (kC q A n ad g wm dy tl hs) false t) wh w 1 (by decide)) kw_234 kw_235 kw_18 kw_236 (by decide +kernel) (rl_ok (by omega) (by decide)) hF hz hS rfl hl.1 rfl (Nat.le_of_ble_eq_true rfl) dX8_ask_14 ⟨Nat.le_refl 0, Nat.le_refl 0⟩) hS (fun r_2 w2 H locs hw2 hS => ?_)
  obtain ⟨rfl, rfl⟩ := hw2
  refine lv_if_ne (tgt := 23) hx hb dX8_ask_17 (by decide) (fun c_3 => absurd (h0) c_3) (fun c_3 => ?_)
  refine lv_bipush (v := -2) hx hb dX8_ask_20 (by decide) ?_
  exact m_iret hx hb hr hlk hS (⟨rfl, rfl⟩) (Nat.le_refl 0) (Nat.le_refl 0) dX8_ask_22
def askV (rc : Rc) (k : Nat) (w : Int32) : Int32 := match k with
  | 0 => riseV (kd rc) w
  | 1 => needV (kd rc) (rc 1)
  | 2 => brownV (kd rc) w
  | 3 => priceV (kd rc) (rc 1)
  | 4 => if 2 ≤ kd rc ∧ kd rc < 5 then keepsV (kd rc) (rc 1) else -3
  | _ => if 5 ≤ kd rc then glazeV (kd rc) (rc 1) else -3
def askT (rc : Rc) (k : Nat) : List Int32 := match k with
  | 0 => riseT (kd rc)
  | 1 => needT (kd rc)
  | 2 => brownT (kd rc)
  | 3 => priceT (kd rc)
  | 4 => if 2 ≤ kd rc ∧ kd rc < 5 then keepsT (kd rc) else []
  | _ => if 5 ≤ kd rc then glazeT (kd rc) else []
set_option maxHeartbeats 4000000 in
set_option maxRecDepth 100000 in
theorem c_ask (l : Launch) (X : Cx) (q : Nat → Nat × va_E) (A : Nat → Nat) (n : Nat) (ad : Nat → Nat) (g : Nat → Rc) (wm dy tl : Int32) (hs : Nat → Int32) (t : Tr) (j f : Nat) (hn : n ≤ 40) (hkd : ∀ i, i < n → kd (g i) < 7) (hj : j < n) (k : Nat) (w : Int32) (hk : k < 6) (hf : 7 ≤ f) (h0 : ¬ qOk (nI k) w = 0) : cI l yX8_ask cX8_ask 7 (some .int) (rl f) X [.ref (A 0), .int (nI j), .int (nI k), .int w] (wT X (kC q A n ad g wm dy tl hs) false t) (fun r w' => r = askV (g j) k w ∧ w' = wT X (kC q A n ad g wm dy tl hs) false (te true (askT (g j) k) (0, t.2))) := by
  refine met_start (by decide) (Nat.le_of_ble_eq_true rfl) ?_
  intro p e s m below meth c ls fx hS hl
  obtain ⟨hx, hb, hr, hml, hown, hG, hlk, hF, hz, hnm⟩ := fx
  have hown : s.vm.findClass RX8 = some m.cls := hown
  have hl : lv_has ls 7 [(0, .ref (A 0)), (1, .int (nI j)), (2, .int (nI k)), (3, .int w)] := hl
  refine lv_aload_n hx hb dX8_ask_0 rfl (lv_at hl 0 rfl) ?_
  refine lv_iload_n hx hb dX8_ask_1 rfl (lv_at hl 1 rfl) ?_
  refine m_cq (m_runV (n := 1) (rest := []) ⟨hx, hb, hml, hown, hG⟩ (c_find l X q A n ad g wm dy tl hs t j 0 hn hj) kw_230 kw_232 kw_1 kw_18 kw_233 (by decide +kernel) (rl_ok (by omega) (by decide)) hF hz hS (q0 := 10) rfl rfl rfl hl.1 rfl (Nat.le_of_ble_eq_true rfl) dX8_ask_2 ⟨Nat.le_refl 0, Nat.le_refl 0⟩) hS (fun o_1 w1 H locs hw1 hS => ?_)
  obtain ⟨rfl, rfl⟩ := hw1
  refine lv_astore (lv' := [(4, .ref (ad j)), (0, .ref (A 0)), (1, .int (nI j)), (2, .int (nI k)), (3, .int w)]) hx hb dX8_ask_5 hl (by decide) rfl (fun ls hl => ?_)
  refine lv_aload hx hb dX8_ask_7 (lv_at hl 0 rfl) ?_
  refine lv_ifnull hx hb dX8_ask_9 ?_
  refine lv_iload_n hx hb dX8_ask_12 rfl (lv_at hl 3 rfl) ?_
  refine lv_iload_n hx hb dX8_ask_13 rfl (lv_at hl 4 rfl) ?_
  refine m_ci (m_runS (n := 2) (rest := []) ⟨hx, hb, hml, hown, hG⟩ (c_isQuestion l X (wT X (kC q A n ad g wm dy tl hs) false t) (nI k) w 1 (by decide)) kw_234 kw_235 kw_18 kw_236 (by decide +kernel) (rl_ok (by omega) (by decide)) hF hz hS rfl hl.1 rfl (Nat.le_of_ble_eq_true rfl) dX8_ask_14 ⟨Nat.le_refl 0, Nat.le_refl 0⟩) hS (fun r_2 w2 H locs hw2 hS => ?_)
  obtain ⟨rfl, rfl⟩ := hw2
  refine lv_if_ne (tgt := 23) hx hb dX8_ask_17 (by decide) (fun c_3 => ?_) (fun c_3 => absurd c_3 (h0))
  refine lv_bipush (v := -3) hx hb dX8_ask_23 (by decide) ?_
  refine lv_istore (lv' := [(5, .int (-3)), (4, .ref (ad j)), (0, .ref (A 0)), (1, .int (nI j)), (2, .int (nI k)), (3, .int w)]) hx hb dX8_ask_25 hl (by decide) rfl (fun ls hl => ?_)
  refine lv_aload_n hx hb dX8_ask_27 rfl (lv_at hl 2 rfl) ?_
  refine m_get (v := .ref (A 3)) hx hb hG hown hF hS (10) rfl rfl iG_8 2 (by decide) kw_58 (fun _ h9 => h9) rfl dX8_ask_28 ?_
  refine m_cv (m_runV (n := 0) (rest := []) ⟨hx, hb, hml, hown, hG⟩ (c_start l X (kC q A n ad g wm dy tl hs) false t 0) kw_237 kw_238 kw_239 kw_19 kw_240 (by decide +kernel) (rl_ok (by omega) (by decide)) hF hz hS (q0 := 13) rfl rfl rfl hl.1 rfl (Nat.le_of_ble_eq_true rfl) dX8_ask_31 ⟨Nat.le_refl 0, Nat.le_refl 0⟩) hS (fun w3 H locs hw3 hS => ?_)
  subst hw3
  have hR : tR true 10 ((0, t.2) : Tr) := fun _ => Nat.le_refl 10
  refine lv_iload_n hx hb dX8_ask_34 rfl (lv_at hl 4 rfl) ?_
  match k, hk with
  | 0, _ =>
    refine lv_tableIn (off := 33) (tgt := 68) hx hb dX8_ask_35 (by decide) (by decide) (by decide) (by decide) ?_
    refine lv_aload hx hb dX8_ask_68 (lv_at hl 1 rfl) ?_
    refine lv_iload_n hx hb dX8_ask_70 rfl (lv_at hl 5 rfl) ?_
    refine m_ci (m_runU (x := yX2_rise) (owner := "DoughRoom$Dough") (n := 1) (rest := []) ⟨hx, hb, hml, hown, hG⟩ (f_rise l X (kC q A n ad g wm dy tl hs) true (0, t.2) (ad j) j (g j) (kd (g j)) w 3 (kC_hi hj) rfl (Nat.zero_le _) (hkd j hj) (by decide) (hR.le (by decide))) kw_241 kw_244 kw_242 kw_271 (fam_rise (kd (g j)) (Nat.zero_le _) (hkd j hj)).2.1 (fam_rise (kd (g j)) (Nat.zero_le _) (hkd j hj)).1 (fam_rise (kd (g j)) (Nat.zero_le _) (hkd j hj)).2.2.1 (fam_rise (kd (g j)) (Nat.zero_le _) (hkd j hj)).2.2.2.1 (by decide +kernel) (rl_ok (by omega) (fam_rise (kd (g j)) (Nat.zero_le _) (hkd j hj)).2.2.2.2) hF hz hS (q0 := j + 15) (kC_at hj) (kd_cls (hkd j hj)).1 rfl hl.1 rfl (Nat.le_of_ble_eq_true rfl) dX8_ask_71 ⟨Nat.le_refl 0, Nat.le_refl 0⟩) hS (fun r_4 w4 H locs hw4 hS => ?_)
    obtain ⟨rfl, rfl⟩ := hw4
    refine lv_istore (lv' := [(5, .int (riseV (kd (g j)) w)), (4, .ref (ad j)), (0, .ref (A 0)), (1, .int (nI j)), (2, .int (nI 0)), (3, .int w)]) hx hb dX8_ask_74 hl (by decide) rfl (fun ls hl => ?_)
    refine lv_goto (tgt := 157) hx hb dX8_ask_76 (by decide) ?_
    refine lv_aload_n hx hb dX8_ask_157 rfl (lv_at hl 2 rfl) ?_
    refine m_get (v := .ref (A 3)) hx hb hG hown hF hS (10) rfl rfl iG_8 2 (by decide) kw_58 (fun _ h9 => h9) rfl dX8_ask_158 ?_
    refine m_cv (m_runV (n := 0) (rest := []) ⟨hx, hb, hml, hown, hG⟩ (c_stop l X (kC q A n ad g wm dy tl hs) true (te true (riseT (kd (g j))) (0, t.2)) 0) kw_373 kw_374 kw_375 kw_19 kw_376 (by decide +kernel) (rl_ok (by omega) (by decide)) hF hz hS (q0 := 13) rfl rfl rfl hl.1 rfl (Nat.le_of_ble_eq_true rfl) dX8_ask_161 ⟨Nat.le_refl 0, Nat.le_refl 0⟩) hS (fun w8 H locs hw8 hS => ?_)
    subst hw8
    refine lv_iload hx hb dX8_ask_164 (lv_at hl 0 rfl) ?_
    exact m_iret hx hb hr hlk hS (⟨rfl, rfl⟩) (Nat.le_refl 0) (Nat.le_refl 0) dX8_ask_166
  | 1, _ =>
    refine lv_tableIn (off := 44) (tgt := 79) hx hb dX8_ask_35 (by decide) (by decide) (by decide) (by decide) ?_
    refine lv_aload hx hb dX8_ask_79 (lv_at hl 1 rfl) ?_
    refine m_ci (m_runU (x := yX2_need) (owner := "DoughRoom$Dough") (n := 0) (rest := []) ⟨hx, hb, hml, hown, hG⟩ (f_need l X (kC q A n ad g wm dy tl hs) true (0, t.2) (ad j) j (g j) (kd (g j)) 4 (kC_hi hj) rfl (Nat.zero_le _) (hkd j hj) (by decide) (hR.le (by decide))) kw_273 kw_276 kw_274 kw_296 (fam_need (kd (g j)) (Nat.zero_le _) (hkd j hj)).2.1 (fam_need (kd (g j)) (Nat.zero_le _) (hkd j hj)).1 (fam_need (kd (g j)) (Nat.zero_le _) (hkd j hj)).2.2.1 (fam_need (kd (g j)) (Nat.zero_le _) (hkd j hj)).2.2.2.1 (by decide +kernel) (rl_ok (by omega) (fam_need (kd (g j)) (Nat.zero_le _) (hkd j hj)).2.2.2.2) hF hz hS (q0 := j + 15) (kC_at hj) (kd_cls (hkd j hj)).1 rfl hl.1 rfl (Nat.le_of_ble_eq_true rfl) dX8_ask_81 ⟨Nat.le_refl 0, Nat.le_refl 0⟩) hS (fun r_4 w4 H locs hw4 hS => ?_)
    obtain ⟨rfl, rfl⟩ := hw4
    refine lv_istore (lv' := [(5, .int (needV (kd (g j)) (g j 1))), (4, .ref (ad j)), (0, .ref (A 0)), (1, .int (nI j)), (2, .int (nI 1)), (3, .int w)]) hx hb dX8_ask_84 hl (by decide) rfl (fun ls hl => ?_)
    refine lv_goto (tgt := 157) hx hb dX8_ask_86 (by decide) ?_
    refine lv_aload_n hx hb dX8_ask_157 rfl (lv_at hl 2 rfl) ?_
    refine m_get (v := .ref (A 3)) hx hb hG hown hF hS (10) rfl rfl iG_8 2 (by decide) kw_58 (fun _ h9 => h9) rfl dX8_ask_158 ?_
    refine m_cv (m_runV (n := 0) (rest := []) ⟨hx, hb, hml, hown, hG⟩ (c_stop l X (kC q A n ad g wm dy tl hs) true (te true (needT (kd (g j))) (0, t.2)) 0) kw_373 kw_374 kw_375 kw_19 kw_376 (by decide +kernel) (rl_ok (by omega) (by decide)) hF hz hS (q0 := 13) rfl rfl rfl hl.1 rfl (Nat.le_of_ble_eq_true rfl) dX8_ask_161 ⟨Nat.le_refl 0, Nat.le_refl 0⟩) hS (fun w8 H locs hw8 hS => ?_)
    subst hw8
    refine lv_iload hx hb dX8_ask_164 (lv_at hl 0 rfl) ?_
    exact m_iret hx hb hr hlk hS (⟨rfl, rfl⟩) (Nat.le_refl 0) (Nat.le_refl 0) dX8_ask_166
  | 2, _ =>
    refine lv_tableIn (off := 54) (tgt := 89) hx hb dX8_ask_35 (by decide) (by decide) (by decide) (by decide) ?_
    refine lv_aload hx hb dX8_ask_89 (lv_at hl 1 rfl) ?_
    refine lv_iload_n hx hb dX8_ask_91 rfl (lv_at hl 5 rfl) ?_
    refine m_ci (m_runU (x := yX2_brown) (owner := "DoughRoom$Dough") (n := 1) (rest := []) ⟨hx, hb, hml, hown, hG⟩ (f_brown l X (kC q A n ad g wm dy tl hs) true (0, t.2) (ad j) j (g j) (kd (g j)) w 2 (kC_hi hj) rfl (Nat.zero_le _) (hkd j hj) (by decide) (hR.le (by decide))) kw_297 kw_300 kw_298 kw_316 (fam_brown (kd (g j)) (Nat.zero_le _) (hkd j hj)).2.1 (fam_brown (kd (g j)) (Nat.zero_le _) (hkd j hj)).1 (fam_brown (kd (g j)) (Nat.zero_le _) (hkd j hj)).2.2.1 (fam_brown (kd (g j)) (Nat.zero_le _) (hkd j hj)).2.2.2.1 (by decide +kernel) (rl_ok (by omega) (fam_brown (kd (g j)) (Nat.zero_le _) (hkd j hj)).2.2.2.2) hF hz hS (q0 := j + 15) (kC_at hj) (kd_cls (hkd j hj)).1 rfl hl.1 rfl (Nat.le_of_ble_eq_true rfl) dX8_ask_92 ⟨Nat.le_refl 0, Nat.le_refl 0⟩) hS (fun r_4 w4 H locs hw4 hS => ?_)
    obtain ⟨rfl, rfl⟩ := hw4
    refine lv_istore (lv' := [(5, .int (brownV (kd (g j)) w)), (4, .ref (ad j)), (0, .ref (A 0)), (1, .int (nI j)), (2, .int (nI 2)), (3, .int w)]) hx hb dX8_ask_95 hl (by decide) rfl (fun ls hl => ?_)
    refine lv_goto (tgt := 157) hx hb dX8_ask_97 (by decide) ?_
    refine lv_aload_n hx hb dX8_ask_157 rfl (lv_at hl 2 rfl) ?_
    refine m_get (v := .ref (A 3)) hx hb hG hown hF hS (10) rfl rfl iG_8 2 (by decide) kw_58 (fun _ h9 => h9) rfl dX8_ask_158 ?_
    refine m_cv (m_runV (n := 0) (rest := []) ⟨hx, hb, hml, hown, hG⟩ (c_stop l X (kC q A n ad g wm dy tl hs) true (te true (brownT (kd (g j))) (0, t.2)) 0) kw_373 kw_374 kw_375 kw_19 kw_376 (by decide +kernel) (rl_ok (by omega) (by decide)) hF hz hS (q0 := 13) rfl rfl rfl hl.1 rfl (Nat.le_of_ble_eq_true rfl) dX8_ask_161 ⟨Nat.le_refl 0, Nat.le_refl 0⟩) hS (fun w8 H locs hw8 hS => ?_)
    subst hw8
    refine lv_iload hx hb dX8_ask_164 (lv_at hl 0 rfl) ?_
    exact m_iret hx hb hr hlk hS (⟨rfl, rfl⟩) (Nat.le_refl 0) (Nat.le_refl 0) dX8_ask_166
  | 3, _ =>
    refine lv_tableIn (off := 65) (tgt := 100) hx hb dX8_ask_35 (by decide) (by decide) (by decide) (by decide) ?_
    refine lv_aload hx hb dX8_ask_100 (lv_at hl 1 rfl) ?_
    refine m_ci (m_runU (x := yX2_price) (owner := "DoughRoom$Dough") (n := 0) (rest := []) ⟨hx, hb, hml, hown, hG⟩ (f_price l X (kC q A n ad g wm dy tl hs) true (0, t.2) (ad j) j (g j) (kd (g j)) 5 (kC_hi hj) rfl (Nat.zero_le _) (hkd j hj) (by decide) (hR.le (by decide))) kw_317 kw_320 kw_318 kw_343 (fam_price (kd (g j)) (Nat.zero_le _) (hkd j hj)).2.1 (fam_price (kd (g j)) (Nat.zero_le _) (hkd j hj)).1 (fam_price (kd (g j)) (Nat.zero_le _) (hkd j hj)).2.2.1 (fam_price (kd (g j)) (Nat.zero_le _) (hkd j hj)).2.2.2.1 (by decide +kernel) (rl_ok (by omega) (fam_price (kd (g j)) (Nat.zero_le _) (hkd j hj)).2.2.2.2) hF hz hS (q0 := j + 15) (kC_at hj) (kd_cls (hkd j hj)).1 rfl hl.1 rfl (Nat.le_of_ble_eq_true rfl) dX8_ask_102 ⟨Nat.le_refl 0, Nat.le_refl 0⟩) hS (fun r_4 w4 H locs hw4 hS => ?_)
    obtain ⟨rfl, rfl⟩ := hw4
    refine lv_istore (lv' := [(5, .int (priceV (kd (g j)) (g j 1))), (4, .ref (ad j)), (0, .ref (A 0)), (1, .int (nI j)), (2, .int (nI 3)), (3, .int w)]) hx hb dX8_ask_105 hl (by decide) rfl (fun ls hl => ?_)
    refine lv_goto (tgt := 157) hx hb dX8_ask_107 (by decide) ?_
    refine lv_aload_n hx hb dX8_ask_157 rfl (lv_at hl 2 rfl) ?_
    refine m_get (v := .ref (A 3)) hx hb hG hown hF hS (10) rfl rfl iG_8 2 (by decide) kw_58 (fun _ h9 => h9) rfl dX8_ask_158 ?_
    refine m_cv (m_runV (n := 0) (rest := []) ⟨hx, hb, hml, hown, hG⟩ (c_stop l X (kC q A n ad g wm dy tl hs) true (te true (priceT (kd (g j))) (0, t.2)) 0) kw_373 kw_374 kw_375 kw_19 kw_376 (by decide +kernel) (rl_ok (by omega) (by decide)) hF hz hS (q0 := 13) rfl rfl rfl hl.1 rfl (Nat.le_of_ble_eq_true rfl) dX8_ask_161 ⟨Nat.le_refl 0, Nat.le_refl 0⟩) hS (fun w8 H locs hw8 hS => ?_)
    subst hw8
    refine lv_iload hx hb dX8_ask_164 (lv_at hl 0 rfl) ?_
    exact m_iret hx hb hr hlk hS (⟨rfl, rfl⟩) (Nat.le_refl 0) (Nat.le_refl 0) dX8_ask_166
  | 4, _ =>
    refine lv_tableIn (off := 75) (tgt := 110) hx hb dX8_ask_35 (by decide) (by decide) (by decide) (by decide) ?_
    refine lv_aload hx hb dX8_ask_110 (lv_at hl 1 rfl) ?_
    by_cases h5 : 2 ≤ kd (g j) ∧ kd (g j) < 5
    · refine m_instY hx hb hG hown hF hS (j + 15) (kC_at hj) (hkd j hj) kw_140 (hF.2.2.2.1 _ h5.1 h5.2) dX8_ask_112 ?_
      refine lv_if_eq (tgt := 132) hx hb dX8_ask_115 (by decide) (fun c_4 => absurd c_4 (by decide)) (fun c_4 => ?_)
      refine lv_aload hx hb dX8_ask_118 (lv_at hl 1 rfl) ?_
      refine m_castY hx hb hG hown hF hS (j + 15) (kC_at hj) (hkd j hj) kw_140 (hF.2.2.2.1 _ h5.1 h5.2) dX8_ask_120 ?_
      refine lv_astore (lv' := [(6, .ref (ad j)), (5, .int (-3)), (4, .ref (ad j)), (0, .ref (A 0)), (1, .int (nI j)), (2, .int (nI 4)), (3, .int w)]) hx hb dX8_ask_123 hl (by decide) rfl (fun ls hl => ?_)
      refine lv_aload hx hb dX8_ask_125 (lv_at hl 0 rfl) ?_
      refine m_ci (m_runU (x := yX4_keeps) (owner := "DoughRoom$Sour") (n := 0) (rest := []) ⟨hx, hb, hml, hown, hG⟩ (f_keeps l X (kC q A n ad g wm dy tl hs) true (0, t.2) (ad j) j (g j) (kd (g j)) 6 (kC_hi hj) rfl h5.1 h5.2 (by decide) (hR.le (by decide))) kw_344 kw_347 kw_345 kw_353 (fam_keeps (kd (g j)) h5.1 h5.2).2.1 (fam_keeps (kd (g j)) h5.1 h5.2).1 (fam_keeps (kd (g j)) h5.1 h5.2).2.2.1 (fam_keeps (kd (g j)) h5.1 h5.2).2.2.2.1 (by decide +kernel) (rl_ok (by omega) (fam_keeps (kd (g j)) h5.1 h5.2).2.2.2.2) hF hz hS (q0 := j + 15) (kC_at hj) (kd_cls (hkd j hj)).1 rfl hl.1 rfl (Nat.le_of_ble_eq_true rfl) dX8_ask_127 ⟨Nat.le_refl 0, Nat.le_refl 0⟩) hS (fun r_5 w4 H locs hw4 hS => ?_)
      obtain ⟨rfl, rfl⟩ := hw4
      refine lv_istore (lv' := [(5, .int (keepsV (kd (g j)) (g j 1))), (6, .ref (ad j)), (4, .ref (ad j)), (0, .ref (A 0)), (1, .int (nI j)), (2, .int (nI 4)), (3, .int w)]) hx hb dX8_ask_130 hl (by decide) rfl (fun ls hl => ?_)
      refine lv_goto (tgt := 157) hx hb dX8_ask_132 (by decide) ?_
      refine lv_aload_n hx hb dX8_ask_157 rfl (lv_at hl 3 rfl) ?_
      refine m_get (v := .ref (A 3)) hx hb hG hown hF hS (10) rfl rfl iG_8 2 (by decide) kw_58 (fun _ h9 => h9) rfl dX8_ask_158 ?_
      refine m_cv (m_runV (n := 0) (rest := []) ⟨hx, hb, hml, hown, hG⟩ (c_stop l X (kC q A n ad g wm dy tl hs) true (te true (keepsT (kd (g j))) (0, t.2)) 0) kw_373 kw_374 kw_375 kw_19 kw_376 (by decide +kernel) (rl_ok (by omega) (by decide)) hF hz hS (q0 := 13) rfl rfl rfl hl.1 rfl (Nat.le_of_ble_eq_true rfl) dX8_ask_161 ⟨Nat.le_refl 0, Nat.le_refl 0⟩) hS (fun w8 H locs hw8 hS => ?_)
      subst hw8
      refine lv_iload hx hb dX8_ask_164 (lv_at hl 0 rfl) ?_
      exact m_iret hx hb hr hlk hS (⟨by show _ = if 2 ≤ kd (g j) ∧ kd (g j) < 5 then _ else _; rw [if_pos h5], by show _ = wT X (kC q A n ad g wm dy tl hs) false (te true (if 2 ≤ kd (g j) ∧ kd (g j) < 5 then _ else _) _); rw [if_pos h5]⟩) (Nat.le_refl 0) (Nat.le_refl 0) dX8_ask_166
    · rcases Nat.lt_or_ge (kd (g j)) 2 with h6 | h6
      · refine m_instN hx hb hG hown hF hS (j + 15) (kC_at hj) (hkd j hj) kw_140 (hF.2.2.2.2.2.1 _ h6) dX8_ask_112 ?_
        refine lv_if_eq (tgt := 132) hx hb dX8_ask_115 (by decide) (fun c_4 => ?_) (fun c_4 => absurd (rfl) c_4)
        refine lv_goto (tgt := 157) hx hb dX8_ask_132 (by decide) ?_
        refine lv_aload_n hx hb dX8_ask_157 rfl (lv_at hl 2 rfl) ?_
        refine m_get (v := .ref (A 3)) hx hb hG hown hF hS (10) rfl rfl iG_8 2 (by decide) kw_58 (fun _ h9 => h9) rfl dX8_ask_158 ?_
        refine m_cv (m_runV (n := 0) (rest := []) ⟨hx, hb, hml, hown, hG⟩ (c_stop l X (kC q A n ad g wm dy tl hs) true ((0, t.2)) 0) kw_373 kw_374 kw_375 kw_19 kw_376 (by decide +kernel) (rl_ok (by omega) (by decide)) hF hz hS (q0 := 13) rfl rfl rfl hl.1 rfl (Nat.le_of_ble_eq_true rfl) dX8_ask_161 ⟨Nat.le_refl 0, Nat.le_refl 0⟩) hS (fun w8 H locs hw8 hS => ?_)
        subst hw8
        refine lv_iload hx hb dX8_ask_164 (lv_at hl 0 rfl) ?_
        exact m_iret hx hb hr hlk hS (⟨by show _ = if 2 ≤ kd (g j) ∧ kd (g j) < 5 then _ else _; rw [if_neg h5], by show _ = wT X (kC q A n ad g wm dy tl hs) false (te true (if 2 ≤ kd (g j) ∧ kd (g j) < 5 then _ else _) _); rw [if_neg h5]; rfl⟩) (Nat.le_refl 0) (Nat.le_refl 0) dX8_ask_166
      · have h6 : 5 ≤ kd (g j) := Nat.le_of_not_lt (fun q => h5 ⟨h6, q⟩)
        refine m_instN hx hb hG hown hF hS (j + 15) (kC_at hj) (hkd j hj) kw_140 (hF.2.2.2.2.2.2.1 _ h6 (hkd j hj)) dX8_ask_112 ?_
        refine lv_if_eq (tgt := 132) hx hb dX8_ask_115 (by decide) (fun c_4 => ?_) (fun c_4 => absurd (rfl) c_4)
        refine lv_goto (tgt := 157) hx hb dX8_ask_132 (by decide) ?_
        refine lv_aload_n hx hb dX8_ask_157 rfl (lv_at hl 2 rfl) ?_
        refine m_get (v := .ref (A 3)) hx hb hG hown hF hS (10) rfl rfl iG_8 2 (by decide) kw_58 (fun _ h9 => h9) rfl dX8_ask_158 ?_
        refine m_cv (m_runV (n := 0) (rest := []) ⟨hx, hb, hml, hown, hG⟩ (c_stop l X (kC q A n ad g wm dy tl hs) true ((0, t.2)) 0) kw_373 kw_374 kw_375 kw_19 kw_376 (by decide +kernel) (rl_ok (by omega) (by decide)) hF hz hS (q0 := 13) rfl rfl rfl hl.1 rfl (Nat.le_of_ble_eq_true rfl) dX8_ask_161 ⟨Nat.le_refl 0, Nat.le_refl 0⟩) hS (fun w8 H locs hw8 hS => ?_)
        subst hw8
        refine lv_iload hx hb dX8_ask_164 (lv_at hl 0 rfl) ?_
        exact m_iret hx hb hr hlk hS (⟨by show _ = if 2 ≤ kd (g j) ∧ kd (g j) < 5 then _ else _; rw [if_neg h5], by show _ = wT X (kC q A n ad g wm dy tl hs) false (te true (if 2 ≤ kd (g j) ∧ kd (g j) < 5 then _ else _) _); rw [if_neg h5]; rfl⟩) (Nat.le_refl 0) (Nat.le_refl 0) dX8_ask_166
  | 5, _ =>
    refine lv_tableOut (tgt := 135) hx hb dX8_ask_35 (by decide) (by decide) ?_
    refine lv_aload hx hb dX8_ask_135 (lv_at hl 1 rfl) ?_
    by_cases h5 : 5 ≤ kd (g j)
    · refine m_instY hx hb hG hown hF hS (j + 15) (kC_at hj) (hkd j hj) kw_185 (hF.2.2.2.2.1 _ h5 (hkd j hj)) dX8_ask_137 ?_
      refine lv_if_eq (tgt := 157) hx hb dX8_ask_140 (by decide) (fun c_4 => absurd c_4 (by decide)) (fun c_4 => ?_)
      refine lv_aload hx hb dX8_ask_143 (lv_at hl 1 rfl) ?_
      refine m_castY hx hb hG hown hF hS (j + 15) (kC_at hj) (hkd j hj) kw_185 (hF.2.2.2.2.1 _ h5 (hkd j hj)) dX8_ask_145 ?_
      refine lv_astore (lv' := [(6, .ref (ad j)), (5, .int (-3)), (4, .ref (ad j)), (0, .ref (A 0)), (1, .int (nI j)), (2, .int (nI 5)), (3, .int w)]) hx hb dX8_ask_148 hl (by decide) rfl (fun ls hl => ?_)
      refine lv_aload hx hb dX8_ask_150 (lv_at hl 0 rfl) ?_
      refine m_ci (m_runU (x := yX5_glaze) (owner := "DoughRoom$Sweet") (n := 0) (rest := []) ⟨hx, hb, hml, hown, hG⟩ (f_glaze l X (kC q A n ad g wm dy tl hs) true (0, t.2) (ad j) j (g j) (kd (g j)) 6 (kC_hi hj) rfl h5 (hkd j hj) (by decide) (hR.le (by decide))) kw_358 kw_361 kw_359 kw_369 (fam_glaze (kd (g j)) h5 (hkd j hj)).2.1 (fam_glaze (kd (g j)) h5 (hkd j hj)).1 (fam_glaze (kd (g j)) h5 (hkd j hj)).2.2.1 (fam_glaze (kd (g j)) h5 (hkd j hj)).2.2.2.1 (by decide +kernel) (rl_ok (by omega) (fam_glaze (kd (g j)) h5 (hkd j hj)).2.2.2.2) hF hz hS (q0 := j + 15) (kC_at hj) (kd_cls (hkd j hj)).1 rfl hl.1 rfl (Nat.le_of_ble_eq_true rfl) dX8_ask_152 ⟨Nat.le_refl 0, Nat.le_refl 0⟩) hS (fun r_5 w4 H locs hw4 hS => ?_)
      obtain ⟨rfl, rfl⟩ := hw4
      refine lv_istore (lv' := [(5, .int (glazeV (kd (g j)) (g j 1))), (6, .ref (ad j)), (4, .ref (ad j)), (0, .ref (A 0)), (1, .int (nI j)), (2, .int (nI 5)), (3, .int w)]) hx hb dX8_ask_155 hl (by decide) rfl (fun ls hl => ?_)
      refine lv_aload_n hx hb dX8_ask_157 rfl (lv_at hl 3 rfl) ?_
      refine m_get (v := .ref (A 3)) hx hb hG hown hF hS (10) rfl rfl iG_8 2 (by decide) kw_58 (fun _ h9 => h9) rfl dX8_ask_158 ?_
      refine m_cv (m_runV (n := 0) (rest := []) ⟨hx, hb, hml, hown, hG⟩ (c_stop l X (kC q A n ad g wm dy tl hs) true (te true (glazeT (kd (g j))) (0, t.2)) 0) kw_373 kw_374 kw_375 kw_19 kw_376 (by decide +kernel) (rl_ok (by omega) (by decide)) hF hz hS (q0 := 13) rfl rfl rfl hl.1 rfl (Nat.le_of_ble_eq_true rfl) dX8_ask_161 ⟨Nat.le_refl 0, Nat.le_refl 0⟩) hS (fun w8 H locs hw8 hS => ?_)
      subst hw8
      refine lv_iload hx hb dX8_ask_164 (lv_at hl 0 rfl) ?_
      exact m_iret hx hb hr hlk hS (⟨by show _ = if 5 ≤ kd (g j) then _ else _; rw [if_pos h5], by show _ = wT X (kC q A n ad g wm dy tl hs) false (te true (if 5 ≤ kd (g j) then _ else _) _); rw [if_pos h5]⟩) (Nat.le_refl 0) (Nat.le_refl 0) dX8_ask_166
    · refine m_instN hx hb hG hown hF hS (j + 15) (kC_at hj) (hkd j hj) kw_185 (hF.2.2.2.2.2.2.2 _ (Nat.lt_of_not_le h5)) dX8_ask_137 ?_
      refine lv_if_eq (tgt := 157) hx hb dX8_ask_140 (by decide) (fun c_4 => ?_) (fun c_4 => absurd (rfl) c_4)
      refine lv_aload_n hx hb dX8_ask_157 rfl (lv_at hl 2 rfl) ?_
      refine m_get (v := .ref (A 3)) hx hb hG hown hF hS (10) rfl rfl iG_8 2 (by decide) kw_58 (fun _ h9 => h9) rfl dX8_ask_158 ?_
      refine m_cv (m_runV (n := 0) (rest := []) ⟨hx, hb, hml, hown, hG⟩ (c_stop l X (kC q A n ad g wm dy tl hs) true ((0, t.2)) 0) kw_373 kw_374 kw_375 kw_19 kw_376 (by decide +kernel) (rl_ok (by omega) (by decide)) hF hz hS (q0 := 13) rfl rfl rfl hl.1 rfl (Nat.le_of_ble_eq_true rfl) dX8_ask_161 ⟨Nat.le_refl 0, Nat.le_refl 0⟩) hS (fun w8 H locs hw8 hS => ?_)
      subst hw8
      refine lv_iload hx hb dX8_ask_164 (lv_at hl 0 rfl) ?_
      exact m_iret hx hb hr hlk hS (⟨by show _ = if 5 ≤ kd (g j) then _ else _; rw [if_neg h5], by show _ = wT X (kC q A n ad g wm dy tl hs) false (te true (if 5 ≤ kd (g j) then _ else _) _); rw [if_neg h5]; rfl⟩) (Nat.le_refl 0) (Nat.le_refl 0) dX8_ask_166
