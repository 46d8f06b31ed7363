set_option maxHeartbeats 4000000 in
set_option maxRecDepth 100000 in
theorem c_within (l : Launch) (X : Cx) (ws : va_W) (v a b : Int32) (f : Nat) : cI l yX8_within cX8_within 3 (some .boolean) (rl f) X [.int v, .int a, .int b] ws (fun r w => r = inB v a b ∧ w = ws) := by
  refine met_start (by decide) (Nat.le_of_ble_eq_true rfl) ?_
  intro p e s m below meth c ls fx hS hl
  obtain ⟨hx, hb, hr, hml, hown, hG, hlk, hF, hz, hnm⟩ := fx
  have hown : s.vm.findClass RX8 = some m.cls := hown
  have hl : lv_has ls 3 [(0, .int v), (1, .int a), (2, .int b)] := hl
  refine lv_iload_n hx hb dX8_within_0 rfl (lv_at hl 0 rfl) ?_
  refine lv_iload_n hx hb dX8_within_1 rfl (lv_at hl 1 rfl) ?_
  refine lv_icmp_lt (tgt := 14) hx hb dX8_within_2 (by decide) (fun c_1 => ?_) (fun c_1 => ?_)
  · refine lv_iconst (v := 0) hx hb dX8_within_14 (by decide) ?_
    exact m_zret hx hb hr (by decide) hlk hS (⟨(inB_no (Or.inl c_1)).symm, rfl⟩) (Nat.le_refl 0) (Nat.le_refl 0) dX8_within_15
  · refine lv_iload_n hx hb dX8_within_5 rfl (lv_at hl 0 rfl) ?_
    refine lv_iload_n hx hb dX8_within_6 rfl (lv_at hl 2 rfl) ?_
    refine lv_icmp_gt (tgt := 14) hx hb dX8_within_7 (by decide) (fun c_2 => ?_) (fun c_2 => ?_)
    · refine lv_iconst (v := 0) hx hb dX8_within_14 (by decide) ?_
      exact m_zret hx hb hr (by decide) hlk hS (⟨(inB_no (Or.inr c_2)).symm, rfl⟩) (Nat.le_refl 0) (Nat.le_refl 0) dX8_within_15
    · refine lv_iconst (v := 1) hx hb dX8_within_10 (by decide) ?_
      refine lv_goto (tgt := 15) hx hb dX8_within_11 (by decide) ?_
      exact m_zret hx hb hr (by decide) hlk hS (⟨(inB_yes c_1 c_2).symm, rfl⟩) (Nat.le_refl 0) (Nat.le_refl 0) dX8_within_15
def ovB (o : Int32) : Int32 := if o < 0 then 0 else if nI 3 ≤ o then 0 else 1
set_option maxHeartbeats 4000000 in
set_option maxRecDepth 100000 in
theorem c_isOven (l : Launch) (X : Cx) (q : Nat → Nat × va_E) (A : Nat → Nat) (n : Nat) (ad : Nat → Nat) (g : Nat → Rc) (wm dy tl : Int32) (hs : Nat → Int32) (t : Tr) (o : Int32) (f : Nat) : cI l yX8_isOven cX8_isOven 2 (some .boolean) (rl f) X [.ref (A 0), .int o] (wT X (kC q A n ad g wm dy tl hs) false t) (fun r w => r = ovB o ∧ w = wT X (kC q A n ad g wm dy tl hs) false t) := by
  refine met_start (by decide) (Nat.le_of_ble_eq_true rfl) ?_
  intro p e s m below meth c ls fx hS hl
  obtain ⟨hx, hb, hr, hml, hown, hG, hlk, hF, hz, hnm⟩ := fx
  have hown : s.vm.findClass RX8 = some m.cls := hown
  have hl : lv_has ls 2 [(0, .ref (A 0)), (1, .int o)] := hl
  refine lv_iload_n hx hb dX8_isOven_0 rfl (lv_at hl 1 rfl) ?_
  refine lv_if_lt (tgt := 17) hx hb dX8_isOven_1 (by decide) (fun c_1 => ?_) (fun c_1 => ?_)
  · refine lv_iconst (v := 0) hx hb dX8_isOven_17 (by decide) ?_
    exact m_zret hx hb hr (by decide) hlk hS (⟨by unfold ovB; rw [if_pos c_1], rfl⟩) (Nat.le_refl 0) (Nat.le_refl 0) dX8_isOven_18
  · refine lv_iload_n hx hb dX8_isOven_4 rfl (lv_at hl 1 rfl) ?_
    refine lv_aload_n hx hb dX8_isOven_5 rfl (lv_at hl 0 rfl) ?_
    refine m_get (v := .ref (A 2)) hx hb hG hown hF hS (10) rfl rfl iG_8 1 (by decide) kw_57 (fun _ h9 => h9) rfl dX8_isOven_6 ?_
    refine m_alenI hx hb hF hS (12) rfl dX8_isOven_9 ?_
    refine lv_icmp_ge (tgt := 17) hx hb dX8_isOven_10 (by decide) (fun c_2 => ?_) (fun c_2 => ?_)
    · refine lv_iconst (v := 0) hx hb dX8_isOven_17 (by decide) ?_
      exact m_zret hx hb hr (by decide) hlk hS (⟨by unfold ovB; rw [if_neg c_1, if_pos c_2], rfl⟩) (Nat.le_refl 0) (Nat.le_refl 0) dX8_isOven_18
    · refine lv_iconst (v := 1) hx hb dX8_isOven_13 (by decide) ?_
      refine lv_goto (tgt := 18) hx hb dX8_isOven_14 (by decide) ?_
      exact m_zret hx hb hr (by decide) hlk hS (⟨by unfold ovB; rw [if_neg c_1, if_neg c_2], rfl⟩) (Nat.le_refl 0) (Nat.le_refl 0) dX8_isOven_18
theorem ovB_no {o : Int32} (h : o < 0 ∨ nI 3 ≤ o) : ovB o = 0 := by
  unfold ovB
  rcases h with h | h
  · rw [if_pos h]
  · by_cases h2 : o < 0
    · rw [if_pos h2]
    · rw [if_neg h2, if_pos h]
theorem ovB_yes {o : Nat} (h : o < 3) : ovB (nI o) = 1 := by
  unfold ovB
  rw [if_neg (nI_pos (by omega)), if_neg (nI_ge h (by decide))]
def qOk (what w : Int32) : Int32 := if what = 0 then inB w 0 60 else if what = 2 then inB w 0 400 else inB what 0 5
theorem inB_nar (v a b : Int32) : narrow .boolean (.int (inB v a b)) = .int (inB v a b) := by
  unfold inB
  by_cases h : v < a
  · rw [if_pos h]; decide
  · rw [if_neg h]
    by_cases h2 : b < v
    · rw [if_pos h2]; decide
    · rw [if_neg h2]; decide
set_option maxHeartbeats 4000000 in
set_option maxRecDepth 100000 in
theorem c_isQuestion (l : Launch) (X : Cx) (ws : va_W) (wh w : Int32) (f : Nat) (hf : 1 ≤ f) : cI l yX8_isQuestion cX8_isQuestion 2 (some .boolean) (rl f) X [.int wh, .int w] ws (fun r w' => r = qOk wh w ∧ w' = ws) := by
  refine met_start (by decide) (Nat.le_of_ble_eq_true rfl) ?_
  intro p e s m below meth c ls fx hS hl
  obtain ⟨hx, hb, hr, hml, hown, hG, hlk, hF, hz, hnm⟩ := fx
  have hown : s.vm.findClass RX8 = some m.cls := hown
  have hl : lv_has ls 2 [(0, .int wh), (1, .int w)] := hl
  refine lv_iload_n hx hb dX8_isQuestion_0 rfl (lv_at hl 0 rfl) ?_
  by_cases h0 : wh = 0
  · subst h0
    refine lv_lookup (off := 27) (tgt := 28) hx hb dX8_isQuestion_1 (by decide) (by decide) (by decide) ?_
    refine lv_iload_n hx hb dX8_isQuestion_28 rfl (lv_at hl 1 rfl) ?_
    refine lv_iconst (v := 0) hx hb dX8_isQuestion_29 (by decide) ?_
    refine lv_bipush (v := 60) hx hb dX8_isQuestion_30 (by decide) ?_
    refine m_ci (m_runS (n := 3) (rest := []) ⟨hx, hb, hml, hown, hG⟩ (c_within l X ws w 0 60 0) kw_82 kw_83 kw_18 kw_84 (by decide +kernel) (rl_ok (by omega) (by decide)) hF hz hS rfl hl.1 rfl (Nat.le_of_ble_eq_true rfl) dX8_isQuestion_32 ⟨Nat.le_refl 0, Nat.le_refl 0⟩) hS (fun r_1 w1 H locs hw1 hS => ?_)
    obtain ⟨rfl, e2⟩ := hw1
    rw [e2] at hS
    exact m_zret hx hb hr (inB_nar _ _ _) hlk hS ⟨by unfold qOk; rw [if_pos rfl], rfl⟩ (Nat.le_refl 0) (Nat.le_refl 0) dX8_isQuestion_35
  · by_cases h2 : wh = 2
    · subst h2
      refine lv_lookup (off := 35) (tgt := 36) hx hb dX8_isQuestion_1 (by decide) (by decide) (by decide) ?_
      refine lv_iload_n hx hb dX8_isQuestion_36 rfl (lv_at hl 1 rfl) ?_
      refine lv_iconst (v := 0) hx hb dX8_isQuestion_37 (by decide) ?_
      refine lv_sipush (v := 400) hx hb dX8_isQuestion_38 (by decide) ?_
      refine m_ci (m_runS (n := 3) (rest := []) ⟨hx, hb, hml, hown, hG⟩ (c_within l X ws w 0 400 0) kw_82 kw_83 kw_18 kw_84 (by decide +kernel) (rl_ok (by omega) (by decide)) hF hz hS rfl hl.1 rfl (Nat.le_of_ble_eq_true rfl) dX8_isQuestion_41 ⟨Nat.le_refl 0, Nat.le_refl 0⟩) hS (fun r_1 w1 H locs hw1 hS => ?_)
      obtain ⟨rfl, e2⟩ := hw1
      rw [e2] at hS
      exact m_zret hx hb hr (inB_nar _ _ _) hlk hS ⟨by unfold qOk; rw [if_neg h0, if_pos rfl], rfl⟩ (Nat.le_refl 0) (Nat.le_refl 0) dX8_isQuestion_44
    · refine lv_lookup (off := 44) (tgt := 45) hx hb dX8_isQuestion_1 (by decide) (by show Op.lookupswitch.offset [(0, 27), (2, 35)] 44 wh.toInt = 44; rw [lv_osw h0 (by decide), lv_osw h2 (by decide)]; rfl) (by decide) ?_
      refine lv_iload_n hx hb dX8_isQuestion_45 rfl (lv_at hl 0 rfl) ?_
      refine lv_iconst (v := 0) hx hb dX8_isQuestion_46 (by decide) ?_
      refine lv_iconst (v := 5) hx hb dX8_isQuestion_47 (by decide) ?_
      refine m_ci (m_runS (n := 3) (rest := []) ⟨hx, hb, hml, hown, hG⟩ (c_within l X ws wh 0 5 0) kw_82 kw_83 kw_18 kw_84 (by decide +kernel) (rl_ok (by omega) (by decide)) hF hz hS rfl hl.1 rfl (Nat.le_of_ble_eq_true rfl) dX8_isQuestion_48 ⟨Nat.le_refl 0, Nat.le_refl 0⟩) hS (fun r_1 w1 H locs hw1 hS => ?_)
      obtain ⟨rfl, e2⟩ := hw1
      rw [e2] at hS
      exact m_zret hx hb hr (inB_nar _ _ _) hlk hS ⟨by unfold qOk; rw [if_neg h0, if_neg h2], rfl⟩ (Nat.le_refl 0) (Nat.le_refl 0) dX8_isQuestion_51
set_option maxHeartbeats 4000000 in
set_option maxRecDepth 100000 in
theorem c_heatOf (l : Launch) (X : Cx) (q : Nat → Nat × va_E) (A : Nat → Nat) (n : Nat) (ad : Nat → Nat) (g : Nat → Rc) (wm dy tl : Int32) (hs : Nat → Int32) (t : Tr) (o f : Nat) (ho : o < 3) (hf : 1 ≤ f) : cI l yX8_heatOf cX8_heatOf 2 (some .int) (rl f) X [.ref (A 0), .int (nI o)] (wT X (kC q A n ad g wm dy tl hs) false t) (fun r w => r = hs o ∧ w = wT X (kC q A n ad g wm dy tl hs) false t) := by
  refine met_start (by decide) (Nat.le_of_ble_eq_true rfl) ?_
  intro p e s m below meth c ls fx hS hl
  obtain ⟨hx, hb, hr, hml, hown, hG, hlk, hF, hz, hnm⟩ := fx
  have hown : s.vm.findClass RX8 = some m.cls := hown
  have hl : lv_has ls 2 [(0, .ref (A 0)), (1, .int (nI o))] := hl
  refine lv_aload_n hx hb dX8_heatOf_0 rfl (lv_at hl 0 rfl) ?_
  refine lv_iload_n hx hb dX8_heatOf_1 rfl (lv_at hl 1 rfl) ?_
  refine m_ci (m_runV (n := 1) (rest := []) ⟨hx, hb, hml, hown, hG⟩ (c_isOven l X q A n ad g wm dy tl hs t (nI o) 0) kw_393 kw_395 kw_2 kw_18 kw_396 (by decide +kernel) (rl_ok (by omega) (by decide)) hF hz hS (q0 := 10) rfl rfl rfl hl.1 rfl (Nat.le_of_ble_eq_true rfl) dX8_heatOf_2 ⟨Nat.le_refl 0, Nat.le_refl 0⟩) hS (fun r_1 w1 H locs hw1 hS => ?_)
  obtain ⟨rfl, rfl⟩ := hw1
  refine lv_if_eq (tgt := 17) hx hb dX8_heatOf_5 (by decide) (fun c_2 => absurd c_2 (by rw [ovB_yes ho]; decide)) (fun c_2 => ?_)
  refine lv_aload_n hx hb dX8_heatOf_8 rfl (lv_at hl 0 rfl) ?_
  refine m_get (v := .ref (A 2)) hx hb hG hown hF hS (10) rfl rfl iG_8 1 (by decide) kw_57 (fun _ h9 => h9) rfl dX8_heatOf_9 ?_
  refine lv_iload_n hx hb dX8_heatOf_12 rfl (lv_at hl 1 rfl) ?_
  refine m_iald hx hb hF hS (12) rfl (o) rfl (ho) (by decide) dX8_heatOf_13 ?_
  refine lv_goto (tgt := 18) hx hb dX8_heatOf_14 (by decide) ?_
  exact m_iret hx hb hr hlk hS (⟨rfl, rfl⟩) (Nat.le_refl 0) (Nat.le_refl 0) dX8_heatOf_18
set_option maxHeartbeats 4000000 in
set_option maxRecDepth 100000 in
theorem c_find_no (l : Launch) (X : Cx) (q : Nat → Nat × va_E) (A : Nat → Nat) (n : Nat) (ad : Nat → Nat) (g : Nat → Rc) (wm dy tl : Int32) (hs : Nat → Int32) (t : Tr) (b : Int32) (f : Nat) (hn : n ≤ 40) (hb0 : b < 0 ∨ nI n ≤ b) : cQ l yX8_find cX8_find 2 (some (.object "DoughRoom$Dough")) (rl f) X [.ref (A 0), .int b] (wT X (kC q A n ad g wm dy tl hs) false t) (fun o w => o = none ∧ w = wT X (kC q A n ad g wm dy tl hs) false t) := by
  refine met_start (by decide) (Nat.le_of_ble_eq_true rfl) ?_
  intro p e s m below meth c ls fx hS hl
  obtain ⟨hx, hb, hr, hml, hown, hG, hlk, hF, hz, hnm⟩ := fx
  have hown : s.vm.findClass RX8 = some m.cls := hown
  have hl : lv_has ls 2 [(0, .ref (A 0)), (1, .int b)] := hl
  refine lv_iload_n hx hb dX8_find_0 rfl (lv_at hl 1 rfl) ?_
  refine lv_if_lt (tgt := 22) hx hb dX8_find_1 (by decide) (fun c_1 => ?_) (fun c_1 => ?_)
  · refine lv_null hx hb dX8_find_22 ?_
    exact m_qret (r := none) hx hb hr hlk hS ⟨rfl, rfl⟩ (Nat.le_refl 0) (Nat.le_refl 0) dX8_find_23
  · refine lv_iload_n hx hb dX8_find_4 rfl (lv_at hl 1 rfl) ?_
    refine lv_aload_n hx hb dX8_find_5 rfl (lv_at hl 0 rfl) ?_
    refine m_get (v := .ref (A 1)) hx hb hG hown hF hS (10) rfl rfl iG_8 0 (by decide) kw_56 (fun _ h9 => h9) rfl dX8_find_6 ?_
    refine m_alenQ hx hb hF hS (11) rfl dX8_find_9 ?_
    refine lv_icmp_ge (tgt := 22) hx hb dX8_find_10 (by decide) (fun c_2 => ?_) (fun c_2 => ?_)
    · refine lv_null hx hb dX8_find_22 ?_
      exact m_qret (r := none) hx hb hr hlk hS ⟨rfl, rfl⟩ (Nat.le_refl 0) (Nat.le_refl 0) dX8_find_23
    · obtain ⟨j, hj, rfl⟩ : ∃ j, j < 40 ∧ b = nI j := by
        obtain ⟨j, h3, rfl⟩ := nI_of c_1
        exact ⟨j, Nat.lt_of_not_le (fun q => c_2 (nI_le q h3)), rfl⟩
      have hn : n ≤ j := by
        rcases hb0 with h3 | h3
        · exact absurd h3 (nI_pos (by omega))
        · exact Nat.le_of_not_lt (fun q => absurd h3 (nI_ge q (by omega)))
      refine lv_aload_n hx hb dX8_find_13 rfl (lv_at hl 0 rfl) ?_
      refine m_get (v := .ref (A 1)) hx hb hG hown hF hS (10) rfl rfl iG_8 0 (by decide) kw_56 (fun _ h9 => h9) rfl dX8_find_14 ?_
      refine lv_iload_n hx hb dX8_find_17 rfl (lv_at hl 1 rfl) ?_
      refine m_aaldN hx hb hF hS (11) rfl (j) rfl (hj) (by decide) (bfn_out hn) dX8_find_18 ?_
      refine lv_goto (tgt := 23) hx hb dX8_find_19 (by decide) ?_
      exact m_qret (r := none) hx hb hr hlk hS ⟨rfl, rfl⟩ (Nat.le_refl 0) (Nat.le_refl 0) dX8_find_23
set_option maxHeartbeats 4000000 in
set_option maxRecDepth 100000 in
theorem c_find (l : Launch) (X : Cx) (q : Nat → Nat × va_E) (A : Nat → Nat) (n : Nat) (ad : Nat → Nat) (g : Nat → Rc) (wm dy tl : Int32) (hs : Nat → Int32) (t : Tr) (j f : Nat) (hn : n ≤ 40) (hj : j < n) : cQ l yX8_find cX8_find 2 (some (.object "DoughRoom$Dough")) (rl f) X [.ref (A 0), .int (nI j)] (wT X (kC q A n ad g wm dy tl hs) false t) (fun o w => o = some (ad j) ∧ w = wT X (kC q A n ad g wm dy tl hs) false t) := by
  refine met_start (by decide) (Nat.le_of_ble_eq_true rfl) ?_
  intro p e s m below meth c ls fx hS hl
  obtain ⟨hx, hb, hr, hml, hown, hG, hlk, hF, hz, hnm⟩ := fx
  have hown : s.vm.findClass RX8 = some m.cls := hown
  have hl : lv_has ls 2 [(0, .ref (A 0)), (1, .int (nI j))] := hl
  refine lv_iload_n hx hb dX8_find_0 rfl (lv_at hl 1 rfl) ?_
  refine lv_if_lt (tgt := 22) hx hb dX8_find_1 (by decide) (fun c_1 => absurd c_1 (nI_pos (by omega))) (fun c_1 => ?_)
  refine lv_iload_n hx hb dX8_find_4 rfl (lv_at hl 1 rfl) ?_
  refine lv_aload_n hx hb dX8_find_5 rfl (lv_at hl 0 rfl) ?_
  refine m_get (v := .ref (A 1)) hx hb hG hown hF hS (10) rfl rfl iG_8 0 (by decide) kw_56 (fun _ h9 => h9) rfl dX8_find_6 ?_
  refine m_alenQ hx hb hF hS (11) rfl dX8_find_9 ?_
  refine lv_icmp_ge (tgt := 22) hx hb dX8_find_10 (by decide) (fun c_2 => absurd c_2 (nI_ge (by omega) (by decide))) (fun c_2 => ?_)
  refine lv_aload_n hx hb dX8_find_13 rfl (lv_at hl 0 rfl) ?_
  refine m_get (v := .ref (A 1)) hx hb hG hown hF hS (10) rfl rfl iG_8 0 (by decide) kw_56 (fun _ h9 => h9) rfl dX8_find_14 ?_
  refine lv_iload_n hx hb dX8_find_17 rfl (lv_at hl 1 rfl) ?_
  refine m_aaldS hx hb hF hS (11) rfl (j) rfl (by omega) (by decide) (bfn_in hj) dX8_find_18 ?_
  refine lv_goto (tgt := 23) hx hb dX8_find_19 (by decide) ?_
  exact m_qret (r := some (ad j)) hx hb hr hlk hS ⟨rfl, rfl⟩ (Nat.le_refl 0) (Nat.le_refl 0) dX8_find_23
set_option maxHeartbeats 4000000 in
set_option maxRecDepth 100000 in
theorem c_at_no (l : Launch) (X : Cx) (q : Nat → Nat × va_E) (A : Nat → Nat) (n : Nat) (ad : Nat → Nat) (g : Nat → Rc) (wm dy tl : Int32) (hs : Nat → Int32) (t : Tr) (i : Int32) (f : Nat) (h0 : i < 0 ∨ nI t.1 ≤ i) : cI l yX6_at cX6_at 2 (some .int) (rl f) X [.ref (A 3), .int i] (wT X (kC q A n ad g wm dy tl hs) false t) (fun r w => r = -1 ∧ w = wT X (kC q A n ad g wm dy tl hs) false t) := by
  refine met_start (by decide) (Nat.le_of_ble_eq_true rfl) ?_
  intro p e s m below meth c ls fx hS hl
  obtain ⟨hx, hb, hr, hml, hown, hG, hlk, hF, hz, hnm⟩ := fx
  have hown : s.vm.findClass RX6 = some m.cls := hown
  have hl : lv_has ls 2 [(0, .ref (A 3)), (1, .int i)] := hl
  refine lv_iload_n hx hb dX6_at_0 rfl (lv_at hl 1 rfl) ?_
  refine lv_if_lt (tgt := 30) hx hb dX6_at_1 (by decide) (fun c_1 => ?_) (fun c_1 => ?_)
  · refine lv_iconst (v := -1) hx hb dX6_at_30 (by decide) ?_
    exact m_iret hx hb hr hlk hS (⟨rfl, rfl⟩) (Nat.le_refl 0) (Nat.le_refl 0) dX6_at_31
  · refine lv_iload_n hx hb dX6_at_4 rfl (lv_at hl 1 rfl) ?_
    refine lv_aload_n hx hb dX6_at_5 rfl (lv_at hl 0 rfl) ?_
    refine m_get (v := .int (nI t.1)) hx hb hG hown hF hS (13) rfl rfl iG_7 1 (by decide) kw_46 (fun _ h9 => h9) rfl dX6_at_6 ?_
    refine lv_icmp_ge (tgt := 30) hx hb dX6_at_9 (by decide) (fun c_2 => ?_) (fun c_2 => absurd (h0.resolve_left c_1) c_2)
    refine lv_iconst (v := -1) hx hb dX6_at_30 (by decide) ?_
    exact m_iret hx hb hr hlk hS (⟨rfl, rfl⟩) (Nat.le_refl 0) (Nat.le_refl 0) dX6_at_31
set_option maxHeartbeats 4000000 in
set_option maxRecDepth 100000 in
theorem c_at (l : Launch) (X : Cx) (q : Nat → Nat × va_E) (A : Nat → Nat) (n : Nat) (ad : Nat → Nat) (g : Nat → Rc) (wm dy tl : Int32) (hs : Nat → Int32) (t : Tr) (j f : Nat) (ht : t.1 ≤ 10) (hj : j < t.1) : cI l yX6_at cX6_at 2 (some .int) (rl f) X [.ref (A 3), .int (nI j)] (wT X (kC q A n ad g wm dy tl hs) false t) (fun r w => r = t.2 j ∧ w = wT X (kC q A n ad g wm dy tl hs) false t) := by
  refine met_start (by decide) (Nat.le_of_ble_eq_true rfl) ?_
  intro p e s m below meth c ls fx hS hl
  obtain ⟨hx, hb, hr, hml, hown, hG, hlk, hF, hz, hnm⟩ := fx
  have hown : s.vm.findClass RX6 = some m.cls := hown
  have hl : lv_has ls 2 [(0, .ref (A 3)), (1, .int (nI j))] := hl
  refine lv_iload_n hx hb dX6_at_0 rfl (lv_at hl 1 rfl) ?_
  refine lv_if_lt (tgt := 30) hx hb dX6_at_1 (by decide) (fun c_1 => absurd c_1 (nI_pos (by omega))) (fun c_1 => ?_)
  refine lv_iload_n hx hb dX6_at_4 rfl (lv_at hl 1 rfl) ?_
  refine lv_aload_n hx hb dX6_at_5 rfl (lv_at hl 0 rfl) ?_
  refine m_get (v := .int (nI t.1)) hx hb hG hown hF hS (13) rfl rfl iG_7 1 (by decide) kw_46 (fun _ h9 => h9) rfl dX6_at_6 ?_
  refine lv_icmp_ge (tgt := 30) hx hb dX6_at_9 (by decide) (fun c_2 => absurd c_2 (nI_ge hj (by omega))) (fun c_2 => ?_)
  refine lv_iload_n hx hb dX6_at_12 rfl (lv_at hl 1 rfl) ?_
  refine lv_aload_n hx hb dX6_at_13 rfl (lv_at hl 0 rfl) ?_
  refine m_get (v := .ref (A 4)) hx hb hG hown hF hS (13) rfl rfl iG_7 0 (by decide) kw_45 (fun _ h9 => h9) rfl dX6_at_14 ?_
  refine m_alenI hx hb hF hS (14) rfl dX6_at_17 ?_
  refine lv_icmp_ge (tgt := 30) hx hb dX6_at_18 (by decide) (fun c_3 => absurd c_3 (nI_ge (by omega) (by decide))) (fun c_3 => ?_)
  refine lv_aload_n hx hb dX6_at_21 rfl (lv_at hl 0 rfl) ?_
  refine m_get (v := .ref (A 4)) hx hb hG hown hF hS (13) rfl rfl iG_7 0 (by decide) kw_45 (fun _ h9 => h9) rfl dX6_at_22 ?_
  refine lv_iload_n hx hb dX6_at_25 rfl (lv_at hl 1 rfl) ?_
  refine m_iald hx hb hF hS (14) rfl (j) rfl (by omega) (by decide) dX6_at_26 ?_
  refine lv_goto (tgt := 31) hx hb dX6_at_27 (by decide) ?_
  exact m_iret hx hb hr hlk hS (⟨rfl, rfl⟩) (Nat.le_refl 0) (Nat.le_refl 0) dX6_at_31
set_option maxHeartbeats 4000000 in
set_option maxRecDepth 100000 in
theorem c_trace_no (l : Launch) (X : Cx) (q : Nat → Nat × va_E) (A : Nat → Nat) (n : Nat) (ad : Nat → Nat) (g : Nat → Rc) (wm dy tl : Int32) (hs : Nat → Int32) (t : Tr) (i : Int32) (f : Nat) (h0 : i < 0 ∨ nI t.1 ≤ i) (hf : 1 ≤ f) : cI l yX8_trace cX8_trace 2 (some .int) (rl f) X [.ref (A 0), .int (i)] (wT X (kC q A n ad g wm dy tl hs) false t) (fun r w => r = -1 ∧ w = wT X (kC q A n ad g wm dy tl hs) false t) := by
  refine met_start (by decide) (Nat.le_of_ble_eq_true rfl) ?_
  intro p e s m below meth c ls fx hS hl
  obtain ⟨hx, hb, hr, hml, hown, hG, hlk, hF, hz, hnm⟩ := fx
  have hown : s.vm.findClass RX8 = some m.cls := hown
  have hl : lv_has ls 2 [(0, .ref (A 0)), (1, .int i)] := hl
  refine lv_aload_n hx hb dX8_trace_0 rfl (lv_at hl 0 rfl) ?_
  refine m_get (v := .ref (A 3)) hx hb hG hown hF hS (10) rfl rfl iG_8 2 (by decide) kw_58 (fun _ h9 => h9) rfl dX8_trace_1 ?_
  refine lv_iload_n hx hb dX8_trace_4 rfl (lv_at hl 1 rfl) ?_
  refine m_ci (m_runV (n := 1) (rest := []) ⟨hx, hb, hml, hown, hG⟩ (c_at_no l X q A n ad g wm dy tl hs t i 0 h0) kw_381 kw_382 kw_383 kw_19 kw_384 (by decide +kernel) (rl_ok (by omega) (by decide)) hF hz hS (q0 := 13) rfl rfl rfl hl.1 rfl (Nat.le_of_ble_eq_true rfl) dX8_trace_5 ⟨Nat.le_refl 0, Nat.le_refl 0⟩) hS (fun r_1 w1 H locs hw1 hS => ?_)
  obtain ⟨rfl, rfl⟩ := hw1
  exact m_iret hx hb hr hlk hS (⟨rfl, rfl⟩) (Nat.le_refl 0) (Nat.le_refl 0) dX8_trace_8
set_option maxHeartbeats 4000000 in
set_option maxRecDepth 100000 in
theorem c_trace (l : Launch) (X : Cx) (q : Nat → Nat × va_E) (A : Nat → Nat) (n : Nat) (ad : Nat → Nat) (g : Nat → Rc) (wm dy tl : Int32) (hs : Nat → Int32) (t : Tr) (j f : Nat) (ht : t.1 ≤ 10) (hj : j < t.1) (hf : 1 ≤ f) : cI l yX8_trace cX8_trace 2 (some .int) (rl f) X [.ref (A 0), .int (nI j)] (wT X (kC q A n ad g wm dy tl hs) false t) (fun r w => r = t.2 j ∧ w = wT X (kC q A n ad g wm dy tl hs) false t) := by
  refine met_start (by decide) (Nat.le_of_ble_eq_true rfl) ?_
  intro p e s m below meth c ls fx hS hl
  obtain ⟨hx, hb, hr, hml, hown, hG, hlk, hF, hz, hnm⟩ := fx
  have hown : s.vm.findClass RX8 = some m.cls := hown
  have hl : lv_has ls 2 [(0, .ref (A 0)), (1, .int (nI j))] := hl
  refine lv_aload_n hx hb dX8_trace_0 rfl (lv_at hl 0 rfl) ?_
  refine m_get (v := .ref (A 3)) hx hb hG hown hF hS (10) rfl rfl iG_8 2 (by decide) kw_58 (fun _ h9 => h9) rfl dX8_trace_1 ?_
  refine lv_iload_n hx hb dX8_trace_4 rfl (lv_at hl 1 rfl) ?_
  refine m_ci (m_runV (n := 1) (rest := []) ⟨hx, hb, hml, hown, hG⟩ (c_at l X q A n ad g wm dy tl hs t j 0 ht hj) kw_381 kw_382 kw_383 kw_19 kw_384 (by decide +kernel) (rl_ok (by omega) (by decide)) hF hz hS (q0 := 13) rfl rfl rfl hl.1 rfl (Nat.le_of_ble_eq_true rfl) dX8_trace_5 ⟨Nat.le_refl 0, Nat.le_refl 0⟩) hS (fun r_1 w1 H locs hw1 hS => ?_)
  obtain ⟨rfl, rfl⟩ := hw1
  exact m_iret hx hb hr hlk hS (⟨rfl, rfl⟩) (Nat.le_refl 0) (Nat.le_refl 0) dX8_trace_8
set_option maxHeartbeats 4000000 in
set_option maxRecDepth 100000 in
theorem c_room_bad (l : Launch) (X : Cx) (q : Nat → Nat × va_E) (A : Nat → Nat) (n : Nat) (ad : Nat → Nat) (g : Nat → Rc) (wm dy tl : Int32) (hs : Nat → Int32) (t : Tr) (w : Int32) (f : Nat) (hf : 1 ≤ f) (h0 : inB w 0 60 = 0) : cI l yX8_room cX8_room 3 (some .int) (rl f) X [.ref (A 0), .int w] (wT X (kC q A n ad g wm dy tl hs) false t) (fun r w' => r = -2 ∧ w' = wT X (kC q A n ad g wm dy tl hs) false t) := by
  refine met_start (by decide) (Nat.le_of_ble_eq_true rfl) ?_
  intro p e s m below meth c ls fx hS hl
  obtain ⟨hx, hb, hr, hml, hown, hG, hlk, hF, hz, hnm⟩ := fx
  have hown : s.vm.findClass RX8 = some m.cls := hown
  have hl : lv_has ls 3 [(0, .ref (A 0)), (1, .int w)] := hl
  refine lv_iload_n hx hb dX8_room_0 rfl (lv_at hl 1 rfl) ?_
  refine lv_iconst (v := 0) hx hb dX8_room_1 (by decide) ?_
  refine lv_bipush (v := 60) hx hb dX8_room_2 (by decide) ?_
  refine m_ci (m_runS (n := 3) (rest := []) ⟨hx, hb, hml, hown, hG⟩ (c_within l X (wT X (kC q A n ad g wm dy tl hs) false t) w 0 60 0) kw_82 kw_83 kw_18 kw_84 (by decide +kernel) (rl_ok (by omega) (by decide)) hF hz hS rfl hl.1 rfl (Nat.le_of_ble_eq_true rfl) dX8_room_4 ⟨Nat.le_refl 0, Nat.le_refl 0⟩) hS (fun r_21 w1 H locs hw1 hS => ?_)
  obtain ⟨rfl, rfl⟩ := hw1
  refine lv_if_ne (tgt := 13) hx hb dX8_room_7 (by decide) (fun c_22 => absurd (h0) c_22) (fun c_22 => ?_)
  refine lv_bipush (v := -2) hx hb dX8_room_10 (by decide) ?_
  exact m_iret hx hb hr hlk hS (⟨rfl, rfl⟩) (Nat.le_refl 0) (Nat.le_refl 0) dX8_room_12
set_option maxHeartbeats 4000000 in
set_option maxRecDepth 100000 in
theorem c_room (l : Launch) (X : Cx) (q : Nat → Nat × va_E) (A : Nat → Nat) (n : Nat) (ad : Nat → Nat) (g : Nat → Rc) (wm dy tl : Int32) (hs : Nat → Int32) (t : Tr) (w : Int32) (f : Nat) (hf : 1 ≤ f) (h0 : ¬ inB w 0 60 = 0) : cI l yX8_room cX8_room 3 (some .int) (rl f) X [.ref (A 0), .int w] (wT X (kC q A n ad g wm dy tl hs) false t) (fun r w' => r = wm ∧ w' = wT X (kC q A n ad g w dy tl hs) false t) := by
  refine met_start (by decide) (Nat.le_of_ble_eq_true rfl) ?_
  intro p e s m below meth c ls fx hS hl
  obtain ⟨hx, hb, hr, hml, hown, hG, hlk, hF, hz, hnm⟩ := fx
  have hown : s.vm.findClass RX8 = some m.cls := hown
  have hl : lv_has ls 3 [(0, .ref (A 0)), (1, .int w)] := hl
  refine lv_iload_n hx hb dX8_room_0 rfl (lv_at hl 1 rfl) ?_
  refine lv_iconst (v := 0) hx hb dX8_room_1 (by decide) ?_
  refine lv_bipush (v := 60) hx hb dX8_room_2 (by decide) ?_
  refine m_ci (m_runS (n := 3) (rest := []) ⟨hx, hb, hml, hown, hG⟩ (c_within l X (wT X (kC q A n ad g wm dy tl hs) false t) w 0 60 0) kw_82 kw_83 kw_18 kw_84 (by decide +kernel) (rl_ok (by omega) (by decide)) hF hz hS rfl hl.1 rfl (Nat.le_of_ble_eq_true rfl) dX8_room_4 ⟨Nat.le_refl 0, Nat.le_refl 0⟩) hS (fun r_1 w1 H locs hw1 hS => ?_)
  obtain ⟨rfl, rfl⟩ := hw1
  refine lv_if_ne (tgt := 13) hx hb dX8_room_7 (by decide) (fun c_2 => ?_) (fun c_2 => absurd c_2 (h0))
  refine lv_aload_n hx hb dX8_room_13 rfl (lv_at hl 0 rfl) ?_
  refine m_get (v := .int wm) hx hb hG hown hF hS (10) rfl rfl iG_8 4 (by decide) kw_60 (fun _ h9 => h9) rfl dX8_room_14 ?_
  refine lv_istore_n (lv' := [(2, .int wm), (0, .ref (A 0)), (1, .int w)]) hx hb dX8_room_17 rfl hl (by decide) rfl (fun ls hl => ?_)
  refine lv_aload_n hx hb dX8_room_18 rfl (lv_at hl 1 rfl) ?_
  refine lv_iload_n hx hb dX8_room_19 rfl (lv_at hl 2 rfl) ?_
  refine m_put hx hb hG hown hF hS (10) rfl rfl iG_8 tyX8_ok nmX8 4 (by decide) kw_60 (fun _ h9 => h9) rfl rfl rfl (Nat.le_of_ble_eq_true rfl) (wT X (kC q A n ad g w dy tl hs) false t) rfl dX8_room_20 (fun H locs hS => ?_)
  refine lv_iload_n hx hb dX8_room_23 rfl (lv_at hl 0 rfl) ?_
  exact m_iret hx hb hr hlk hS (⟨rfl, rfl⟩) (Nat.le_refl 0) (Nat.le_refl 0) dX8_room_24
set_option maxHeartbeats 4000000 in
set_option maxRecDepth 100000 in
theorem c_heat_bad (l : Launch) (X : Cx) (q : Nat → Nat × va_E) (A : Nat → Nat) (n : Nat) (ad : Nat → Nat) (g : Nat → Rc) (wm dy tl : Int32) (hs : Nat → Int32) (t : Tr) (o h : Int32) (f : Nat) (hf : 1 ≤ f) (h0 : ovB o = 0 ∨ inB h 0 400 = 0) : cI l yX8_heat cX8_heat 4 (some .int) (rl f) X [.ref (A 0), .int o, .int h] (wT X (kC q A n ad g wm dy tl hs) false t) (fun r w' => r = -2 ∧ w' = wT X (kC q A n ad g wm dy tl hs) false t) := by
  refine met_start (by decide) (Nat.le_of_ble_eq_true rfl) ?_
  intro p e s m below meth c ls fx hS hl
  obtain ⟨hx, hb, hr, hml, hown, hG, hlk, hF, hz, hnm⟩ := fx
  have hown : s.vm.findClass RX8 = some m.cls := hown
  have hl : lv_has ls 4 [(0, .ref (A 0)), (1, .int o), (2, .int h)] := hl
  refine lv_aload_n hx hb dX8_heat_0 rfl (lv_at hl 0 rfl) ?_
  refine lv_iload_n hx hb dX8_heat_1 rfl (lv_at hl 1 rfl) ?_
  refine m_ci (m_runV (n := 1) (rest := []) ⟨hx, hb, hml, hown, hG⟩ (c_isOven l X q A n ad g wm dy tl hs t o 0) kw_393 kw_395 kw_2 kw_18 kw_396 (by decide +kernel) (rl_ok (by omega) (by decide)) hF hz hS (q0 := 10) rfl rfl rfl hl.1 rfl (Nat.le_of_ble_eq_true rfl) dX8_heat_2 ⟨Nat.le_refl 0, Nat.le_refl 0⟩) hS (fun r_1 w1 H locs hw1 hS => ?_)
  obtain ⟨rfl, rfl⟩ := hw1
  refine lv_if_eq (tgt := 19) hx hb dX8_heat_5 (by decide) (fun c_2 => ?_) (fun c_2 => ?_)
  · refine lv_bipush (v := -2) hx hb dX8_heat_19 (by decide) ?_
    exact m_iret hx hb hr hlk hS (⟨rfl, rfl⟩) (Nat.le_refl 0) (Nat.le_refl 0) dX8_heat_21
  · refine lv_iload_n hx hb dX8_heat_8 rfl (lv_at hl 2 rfl) ?_
    refine lv_iconst (v := 0) hx hb dX8_heat_9 (by decide) ?_
    refine lv_sipush (v := 400) hx hb dX8_heat_10 (by decide) ?_
    refine m_ci (m_runS (n := 3) (rest := []) ⟨hx, hb, hml, hown, hG⟩ (c_within l X (wT X (kC q A n ad g wm dy tl hs) false t) h 0 400 0) kw_82 kw_83 kw_18 kw_84 (by decide +kernel) (rl_ok (by omega) (by decide)) hF hz hS rfl hl.1 rfl (Nat.le_of_ble_eq_true rfl) dX8_heat_13 ⟨Nat.le_refl 0, Nat.le_refl 0⟩) hS (fun r_3 w2 H locs hw2 hS => ?_)
    obtain ⟨rfl, rfl⟩ := hw2
    refine lv_if_ne (tgt := 22) hx hb dX8_heat_16 (by decide) (fun c_4 => absurd (h0.resolve_left c_2) c_4) (fun c_4 => ?_)
    refine lv_bipush (v := -2) hx hb dX8_heat_19 (by decide) ?_
    exact m_iret hx hb hr hlk hS (⟨rfl, rfl⟩) (Nat.le_refl 0) (Nat.le_refl 0) dX8_heat_21
set_option maxHeartbeats 4000000 in
set_option maxRecDepth 100000 in
theorem c_heat (l : Launch) (X : Cx) (q : Nat → Nat × va_E) (A : Nat → Nat) (n : Nat) (ad : Nat → Nat) (g : Nat → Rc) (wm dy tl : Int32) (hs : Nat → Int32) (t : Tr) (o : Nat) (h : Int32) (f : Nat) (hf : 1 ≤ f) (ho : o < 3) (h0 : ¬ inB h 0 400 = 0) : cI l yX8_heat cX8_heat 4 (some .int) (rl f) X [.ref (A 0), .int (nI o), .int h] (wT X (kC q A n ad g wm dy tl hs) false t) (fun r w' => r = hs o ∧ w' = wT X (kC q A n ad g wm dy tl (upd hs o h)) false t) := by
  refine met_start (by decide) (Nat.le_of_ble_eq_true rfl) ?_
  intro p e s m below meth c ls fx hS hl
  obtain ⟨hx, hb, hr, hml, hown, hG, hlk, hF, hz, hnm⟩ := fx
  have hown : s.vm.findClass RX8 = some m.cls := hown
  have hl : lv_has ls 4 [(0, .ref (A 0)), (1, .int (nI o)), (2, .int h)] := hl
  refine lv_aload_n hx hb dX8_heat_0 rfl (lv_at hl 0 rfl) ?_
  refine lv_iload_n hx hb dX8_heat_1 rfl (lv_at hl 1 rfl) ?_
  refine m_ci (m_runV (n := 1) (rest := []) ⟨hx, hb, hml, hown, hG⟩ (c_isOven l X q A n ad g wm dy tl hs t (nI o) 0) kw_393 kw_395 kw_2 kw_18 kw_396 (by decide +kernel) (rl_ok (by omega) (by decide)) hF hz hS (q0 := 10) rfl rfl rfl hl.1 rfl (Nat.le_of_ble_eq_true rfl) dX8_heat_2 ⟨Nat.le_refl 0, Nat.le_refl 0⟩) hS (fun r_1 w1 H locs hw1 hS => ?_)
  obtain ⟨rfl, rfl⟩ := hw1
  refine lv_if_eq (tgt := 19) hx hb dX8_heat_5 (by decide) (fun c_2 => absurd c_2 (by rw [ovB_yes ho]; decide)) (fun c_2 => ?_)
  refine lv_iload_n hx hb dX8_heat_8 rfl (lv_at hl 2 rfl) ?_
  refine lv_iconst (v := 0) hx hb dX8_heat_9 (by decide) ?_
  refine lv_sipush (v := 400) hx hb dX8_heat_10 (by decide) ?_
  refine m_ci (m_runS (n := 3) (rest := []) ⟨hx, hb, hml, hown, hG⟩ (c_within l X (wT X (kC q A n ad g wm dy tl hs) false t) h 0 400 0) kw_82 kw_83 kw_18 kw_84 (by decide +kernel) (rl_ok (by omega) (by decide)) hF hz hS rfl hl.1 rfl (Nat.le_of_ble_eq_true rfl) dX8_heat_13 ⟨Nat.le_refl 0, Nat.le_refl 0⟩) hS (fun r_3 w2 H locs hw2 hS => ?_)
  obtain ⟨rfl, rfl⟩ := hw2
  refine lv_if_ne (tgt := 22) hx hb dX8_heat_16 (by decide) (fun c_4 => ?_) (fun c_4 => absurd c_4 (h0))
  refine lv_aload_n hx hb dX8_heat_22 rfl (lv_at hl 0 rfl) ?_
  refine m_get (v := .ref (A 2)) hx hb hG hown hF hS (10) rfl rfl iG_8 1 (by decide) kw_57 (fun _ h9 => h9) rfl dX8_heat_23 ?_
  refine lv_iload_n hx hb dX8_heat_26 rfl (lv_at hl 1 rfl) ?_
  refine m_iald hx hb hF hS (12) rfl (o) rfl (ho) (by decide) dX8_heat_27 ?_
  refine lv_istore_n (lv' := [(3, .int (hs o)), (0, .ref (A 0)), (1, .int (nI o)), (2, .int h)]) hx hb dX8_heat_28 rfl hl (by decide) rfl (fun ls hl => ?_)
  refine lv_aload_n hx hb dX8_heat_29 rfl (lv_at hl 1 rfl) ?_
  refine m_get (v := .ref (A 2)) hx hb hG hown hF hS (10) rfl rfl iG_8 1 (by decide) kw_57 (fun _ h9 => h9) rfl dX8_heat_30 ?_
  refine lv_iload_n hx hb dX8_heat_33 rfl (lv_at hl 2 rfl) ?_
  refine lv_iload_n hx hb dX8_heat_34 rfl (lv_at hl 3 rfl) ?_
  refine m_iast hx hb hF hS (12) rfl (o) rfl (ho) (by decide) (wT X (kC q A n ad g wm dy tl (upd hs o h)) false t) rfl dX8_heat_35 (fun H locs hS => ?_)
  refine lv_iload_n hx hb dX8_heat_36 rfl (lv_at hl 0 rfl) ?_
  exact m_iret hx hb hr hlk hS (⟨rfl, rfl⟩) (Nat.le_refl 0) (Nat.le_refl 0) dX8_heat_37
