set_option maxHeartbeats 4000000 in
set_option maxRecDepth 100000 in
theorem c_riseFor (l : Launch) (X : Cx) (K : KT) (t : Tr) (h i N : Nat) (rc : Rc) (w : Int32) (f : Nat) (hi : (kP K)[i]? = some (h, dE (kA K 3) rc)) (hk : kd rc < 7) (hN : N < 1000) (hf : 5 ≤ f) : cV l yX2_riseFor cX2_riseFor 6 (rl f) X [.ref h, .int (nI N), .int w] (wT X K false t) (fun w' => w' = wT X (kset K i (h, dE (kA K 3) (riseN w N rc))) false t) := by
  refine met_start (by decide) (Nat.le_of_ble_eq_true rfl) ?_
  intro p e s m below meth c ls fx hS hl
  obtain ⟨hx, hb, hr, hml, hown, hG, hlk, hF, hz, hnm⟩ := fx
  have hown : s.vm.findClass RX2 = some m.cls := hown
  have hl : lv_has ls 6 [(0, .ref h), (1, .int (nI N)), (2, .int w)] := hl
  refine lv_aload_n hx hb dX2_riseFor_0 rfl (lv_at hl 0 rfl) ?_
  refine lv_iload_n hx hb dX2_riseFor_1 rfl (lv_at hl 2 rfl) ?_
  refine m_ci (m_runU (x := yX2_rise) (owner := "DoughRoom$Dough") (n := 1) (rest := []) ⟨hx, hb, hml, hown, hG⟩ (f_rise l X K false t h i rc (kd rc) w 3 hi rfl (Nat.zero_le _) hk (by decide) tR.f) kw_416 kw_244 kw_242 kw_271 (fam_rise (kd rc) (Nat.zero_le _) hk).2.1 (fam_rise (kd rc) (Nat.zero_le _) hk).1 (fam_rise (kd rc) (Nat.zero_le _) hk).2.2.1 (fam_rise (kd rc) (Nat.zero_le _) hk).2.2.2.1 (by decide +kernel) (rl_ok (by omega) (fam_rise (kd rc) (Nat.zero_le _) hk).2.2.2.2) hF hz hS (q0 := i + 15) (wT_at hi) (kd_cls hk).1 rfl hl.1 rfl (Nat.le_of_ble_eq_true rfl) dX2_riseFor_2 ⟨Nat.le_refl 0, Nat.le_refl 0⟩) hS (fun r_1 w1 H locs hw1 hS => ?_)
  obtain ⟨rfl, rfl⟩ := hw1
  refine lv_istore_n (lv' := [(3, .int (riseV (kd rc) w)), (0, .ref h), (1, .int (nI N)), (2, .int w)]) hx hb dX2_riseFor_5 rfl hl (by decide) rfl (fun ls hl => ?_)
  refine lv_iconst (v := 2) hx hb dX2_riseFor_6 (by decide) ?_
  refine lv_aload_n hx hb dX2_riseFor_7 rfl (lv_at hl 1 rfl) ?_
  refine m_ci (m_runU (x := yX2_need) (owner := "DoughRoom$Dough") (n := 0) (rest := [.int 2]) ⟨hx, hb, hml, hown, hG⟩ (f_need l X K false t h i rc (kd rc) 4 hi rfl (Nat.zero_le _) hk (by decide) tR.f) kw_417 kw_276 kw_274 kw_296 (fam_need (kd rc) (Nat.zero_le _) hk).2.1 (fam_need (kd rc) (Nat.zero_le _) hk).1 (fam_need (kd rc) (Nat.zero_le _) hk).2.2.1 (fam_need (kd rc) (Nat.zero_le _) hk).2.2.2.1 (by decide +kernel) (rl_ok (by omega) (fam_need (kd rc) (Nat.zero_le _) hk).2.2.2.2) hF hz hS (q0 := i + 15) (wT_at hi) (kd_cls hk).1 rfl hl.1 rfl (Nat.le_of_ble_eq_true rfl) dX2_riseFor_8 ⟨Nat.le_refl 0, Nat.le_refl 0⟩) hS (fun r_2 w2 H locs hw2 hS => ?_)
  obtain ⟨rfl, rfl⟩ := hw2
  refine lv_imul hx hb dX2_riseFor_11 ?_
  refine lv_istore (lv' := [(4, .int (2 * (needV (kd rc) (rc 1)))), (3, .int (riseV (kd rc) w)), (0, .ref h), (1, .int (nI N)), (2, .int w)]) hx hb dX2_riseFor_12 hl (by decide) rfl (fun ls hl => ?_)
  refine lv_iconst (v := 0) hx hb dX2_riseFor_14 (by decide) ?_
  refine lv_istore (lv' := [(5, .int 0), (4, .int (2 * (needV (kd rc) (rc 1)))), (3, .int (riseV (kd rc) w)), (0, .ref h), (1, .int (nI N)), (2, .int w)]) hx hb dX2_riseFor_15 hl (by decide) rfl (fun ls hl => ?_)
  exact rf_loop (t := t) (r := false) (N := N) (w := w) hN hx hb hr hml hown hG hlk hF hz N K rc 0 0 _ _ _ hi hk nI_0.symm (by omega) hS (lv_sub hl [0, 3, 4, 2, 1] rfl) rfl rfl rfl
set_option maxHeartbeats 4000000 in
set_option maxRecDepth 100000 in
theorem c_brownFor (l : Launch) (X : Cx) (K : KT) (t : Tr) (h i N : Nat) (rc : Rc) (w : Int32) (f : Nat) (hi : (kP K)[i]? = some (h, dE (kA K 3) rc)) (hk : kd rc < 7) (hN : N < 1000) (hf : 5 ≤ f) : cV l yX2_brownFor cX2_brownFor 5 (rl f) X [.ref h, .int (nI N), .int w] (wT X K false t) (fun w' => w' = wT X (kset K i (h, dE (kA K 3) (brownN w N rc))) false t) := by
  refine met_start (by decide) (Nat.le_of_ble_eq_true rfl) ?_
  intro p e s m below meth c ls fx hS hl
  obtain ⟨hx, hb, hr, hml, hown, hG, hlk, hF, hz, hnm⟩ := fx
  have hown : s.vm.findClass RX2 = some m.cls := hown
  have hl : lv_has ls 5 [(0, .ref h), (1, .int (nI N)), (2, .int w)] := hl
  refine lv_aload_n hx hb dX2_brownFor_0 rfl (lv_at hl 0 rfl) ?_
  refine lv_iload_n hx hb dX2_brownFor_1 rfl (lv_at hl 2 rfl) ?_
  refine m_ci (m_runU (x := yX2_brown) (owner := "DoughRoom$Dough") (n := 1) (rest := []) ⟨hx, hb, hml, hown, hG⟩ (f_brown l X K false t h i rc (kd rc) w 2 hi rfl (Nat.zero_le _) hk (by decide) tR.f) kw_433 kw_300 kw_298 kw_316 (fam_brown (kd rc) (Nat.zero_le _) hk).2.1 (fam_brown (kd rc) (Nat.zero_le _) hk).1 (fam_brown (kd rc) (Nat.zero_le _) hk).2.2.1 (fam_brown (kd rc) (Nat.zero_le _) hk).2.2.2.1 (by decide +kernel) (rl_ok (by omega) (fam_brown (kd rc) (Nat.zero_le _) hk).2.2.2.2) hF hz hS (q0 := i + 15) (wT_at hi) (kd_cls hk).1 rfl hl.1 rfl (Nat.le_of_ble_eq_true rfl) dX2_brownFor_2 ⟨Nat.le_refl 0, Nat.le_refl 0⟩) hS (fun r_1 w1 H locs hw1 hS => ?_)
  obtain ⟨rfl, rfl⟩ := hw1
  refine lv_istore_n (lv' := [(3, .int (brownV (kd rc) w)), (0, .ref h), (1, .int (nI N)), (2, .int w)]) hx hb dX2_brownFor_5 rfl hl (by decide) rfl (fun ls hl => ?_)
  refine lv_iconst (v := 0) hx hb dX2_brownFor_6 (by decide) ?_
  refine lv_istore (lv' := [(4, .int 0), (3, .int (brownV (kd rc) w)), (0, .ref h), (1, .int (nI N)), (2, .int w)]) hx hb dX2_brownFor_7 hl (by decide) rfl (fun ls hl => ?_)
  exact bf_loop (t := t) (r := false) (N := N) (w := w) hN hx hb hr hml hown hG hlk hF hz N K rc 0 0 _ _ _ hi hk nI_0.symm (by omega) hS (lv_sub hl [0, 2, 3, 1] rfl) rfl rfl
theorem wT_at2 {X : Cx} {K : KT} {r : Bool} {t : Tr} {i kk h : Nat} {fs : List Value} (hi : (kP K)[i]? = some (h, .inr (kk, fs))) : (wT X K r t)[i + 15]? = some (h, .inr (kk, fs)) := hi
theorem k_cls {k : Nat} (h : k < 7) : classes[k]? = some (RD k, TD, 8) ∧ ∀ w ∈ u_ws (RD k) TD 8, w ∈ G := by
  match k, h with
  | 0, _ => exact ⟨rfl, iG_0⟩
  | 1, _ => exact ⟨rfl, iG_1⟩
  | 2, _ => exact ⟨rfl, iG_2⟩
  | 3, _ => exact ⟨rfl, iG_3⟩
  | 4, _ => exact ⟨rfl, iG_4⟩
  | 5, _ => exact ⟨rfl, iG_5⟩
  | 6, _ => exact ⟨rfl, iG_6⟩
/-- a batch just made, and one that its constructor has filled -/
abbrev dN (kk : Nat) : va_E := .inr (kk, [.int 0, .int 0, .null, .int 0, .int 0, .int 0, .int 0, .int 0])
abbrev dM (kk T : Nat) (k m : Int32) : va_E := .inr (kk, [.int k, .int m, .ref T, .int 0, .int 0, .int 0, .int 0, .int 0])
set_option maxHeartbeats 4000000 in
set_option maxRecDepth 100000 in
theorem c_Dinit (l : Launch) (X : Cx) (K : KT) (t : Tr) (h i kk : Nat) (k ma : Int32) (f : Nat) (hi : (kP K)[i]? = some (h, dN kk)) (hk : kk < 7) (hf : 1 ≤ f) : cV l yX2_init cX2_init 4 (rl f) X [.ref h, .int k, .int ma, .ref (kA K 3)] (wT X K false t) (fun w' => w' = wT X (kset K i (h, dM kk (kA K 3) k ma)) false t) := by
  refine met_start (by decide) (Nat.le_of_ble_eq_true rfl) ?_
  intro p e s m below meth c ls fx hS hl
  obtain ⟨hx, hb, hr, hml, hown, hG, hlk, hF, hz, hnm⟩ := fx
  have hown : s.vm.findClass RX2 = some m.cls := hown
  have hl : lv_has ls 4 [(0, .ref h), (1, .int k), (2, .int ma), (3, .ref (kA K 3))] := hl
  refine lv_aload_n hx hb dX2_init_0 rfl (lv_at hl 0 rfl) ?_
  refine W.objInit hx hb hown (hG _ kw_97) (hG _ kw_35) (hG _ kw_36) rfl (by rw [hml]; exact hl.1) rfl dX2_init_1 (by show 1 ≤ f; omega) (by show _ ≤ 27 * f; first | omega | (simp; omega)) ?_
  refine W.eq (g2 := F0 m 4 ls []) rfl ?_
  refine lv_aload_n hx hb dX2_init_4 rfl (lv_at hl 0 rfl) ?_
  refine lv_iload_n hx hb dX2_init_5 rfl (lv_at hl 1 rfl) ?_
  refine m_putF hx hb hG hown hF hS (i + 15) (wT_at2 hi) (k_cls hk).1 (k_cls hk).2 tyX2_ok nmX2 0 (by decide) kw_98 (fun _ h9 => h9) rfl hnm rfl rfl rfl (Nat.le_of_ble_eq_true rfl) (wT X (kset K i (h, .inr (kk, [.int k, .int 0, .null, .int 0, .int 0, .int 0, .int 0, .int 0]))) false t) rfl dX2_init_6 (fun H locs hS => ?_)
  have hi0 : (kP (kset K i (h, .inr (kk, [.int k, .int 0, .null, .int 0, .int 0, .int 0, .int 0, .int 0]))))[i]? = some (h, .inr (kk, [.int k, .int 0, .null, .int 0, .int 0, .int 0, .int 0, .int 0])) := kset_at hi
  refine lv_aload_n hx hb dX2_init_9 rfl (lv_at hl 0 rfl) ?_
  refine lv_iload_n hx hb dX2_init_10 rfl (lv_at hl 2 rfl) ?_
  refine m_putF hx hb hG hown hF hS (i + 15) (wT_at2 hi0) (k_cls hk).1 (k_cls hk).2 tyX2_ok nmX2 1 (by decide) kw_100 (fun _ h9 => h9) rfl hnm rfl rfl rfl (Nat.le_of_ble_eq_true rfl) (wT X (kset K i (h, .inr (kk, [.int k, .int ma, .null, .int 0, .int 0, .int 0, .int 0, .int 0]))) false t) (by rw [wT_set, kset_kset]; rfl) dX2_init_11 (fun H locs hS => ?_)
  have hi1 : (kP (kset K i (h, .inr (kk, [.int k, .int ma, .null, .int 0, .int 0, .int 0, .int 0, .int 0]))))[i]? = some (h, .inr (kk, [.int k, .int ma, .null, .int 0, .int 0, .int 0, .int 0, .int 0])) := kset_at hi
  refine lv_aload_n hx hb dX2_init_14 rfl (lv_at hl 0 rfl) ?_
  refine lv_aload_n hx hb dX2_init_15 rfl (lv_at hl 3 rfl) ?_
  refine m_putF hx hb hG hown hF hS (i + 15) (wT_at2 hi1) (k_cls hk).1 (k_cls hk).2 tyX2_ok nmX2 2 (by decide) kw_102 (fun _ h9 => h9) rfl hnm rfl rfl rfl (Nat.le_of_ble_eq_true rfl) (wT X (kset K i (h, .inr (kk, [.int k, .int ma, .ref (kA K 3), .int 0, .int 0, .int 0, .int 0, .int 0]))) false t) (by rw [wT_set, kset_kset]; rfl) dX2_init_16 (fun H locs hS => ?_)
  have hi2 : (kP (kset K i (h, .inr (kk, [.int k, .int ma, .ref (kA K 3), .int 0, .int 0, .int 0, .int 0, .int 0]))))[i]? = some (h, .inr (kk, [.int k, .int ma, .ref (kA K 3), .int 0, .int 0, .int 0, .int 0, .int 0])) := kset_at hi
  refine lv_aload_n hx hb dX2_init_19 rfl (lv_at hl 0 rfl) ?_
  refine lv_iconst (v := 0) hx hb dX2_init_20 (by decide) ?_
  refine m_put hx hb hG hown hF hS (i + 15) (wT_at2 hi2) (k_cls hk).1 (k_cls hk).2 tyX2_ok nmX2 3 (by decide) kw_115 (fun _ h9 => h9) rfl rfl rfl (Nat.le_of_ble_eq_true rfl) (wT X (kset K i (h, .inr (kk, [.int k, .int ma, .ref (kA K 3), .int 0, .int 0, .int 0, .int 0, .int 0]))) false t) (by rw [wT_set, kset_kset]; rfl) dX2_init_21 (fun H locs hS => ?_)
  have hi3 : (kP (kset K i (h, .inr (kk, [.int k, .int ma, .ref (kA K 3), .int 0, .int 0, .int 0, .int 0, .int 0]))))[i]? = some (h, .inr (kk, [.int k, .int ma, .ref (kA K 3), .int 0, .int 0, .int 0, .int 0, .int 0])) := kset_at hi
  exact m_vret hx hb hr hlk hS rfl (Nat.le_refl 0) (Nat.le_refl 0) dX2_init_24
set_option maxHeartbeats 4000000 in
set_option maxRecDepth 100000 in
theorem c_Yinit (l : Launch) (X : Cx) (K : KT) (t : Tr) (h i kk : Nat) (k ma : Int32) (f : Nat) (hi : (kP K)[i]? = some (h, dN kk)) (hk : kk < 7) (hf : 2 ≤ f) : cV l yX7_init cX7_init 4 (rl f) X [.ref h, .int k, .int ma, .ref (kA K 3)] (wT X K false t) (fun w' => w' = wT X (kset K i (h, dM kk (kA K 3) k ma)) false t) := by
  refine met_start (by decide) (Nat.le_of_ble_eq_true rfl) ?_
  intro p e s m below meth c ls fx hS hl
  obtain ⟨hx, hb, hr, hml, hown, hG, hlk, hF, hz, hnm⟩ := fx
  have hown : s.vm.findClass RX7 = some m.cls := hown
  have hl : lv_has ls 4 [(0, .ref h), (1, .int k), (2, .int ma), (3, .ref (kA K 3))] := hl
  refine lv_aload_n hx hb dX7_init_0 rfl (lv_at hl 0 rfl) ?_
  refine lv_iload_n hx hb dX7_init_1 rfl (lv_at hl 1 rfl) ?_
  refine lv_iload_n hx hb dX7_init_2 rfl (lv_at hl 2 rfl) ?_
  refine lv_aload_n hx hb dX7_init_3 rfl (lv_at hl 3 rfl) ?_
  refine m_cv (m_runI (n := 3) (rest := []) ⟨hx, hb, hml, hown, hG⟩ (c_Dinit l X K t h i kk k ma 1 hi hk (by decide)) kw_94 kw_95 kw_21 kw_96 rfl (by decide +kernel) (rl_ok (by omega) (by decide)) hF hz hS rfl hl.1 rfl (Nat.le_of_ble_eq_true rfl) dX7_init_4 ⟨Nat.le_refl 0, Nat.le_refl 0⟩) hS (fun w1 H locs hw1 hS => ?_)
  subst hw1
  exact m_vret hx hb hr hlk hS rfl (Nat.le_refl 0) (Nat.le_refl 0) dX7_init_7
set_option maxHeartbeats 4000000 in
set_option maxRecDepth 100000 in
theorem c_Winit (l : Launch) (X : Cx) (K : KT) (t : Tr) (h i kk : Nat) (k ma : Int32) (f : Nat) (hi : (kP K)[i]? = some (h, dN kk)) (hk : kk < 7) (hf : 2 ≤ f) : cV l yX5_init cX5_init 4 (rl f) X [.ref h, .int k, .int ma, .ref (kA K 3)] (wT X K false t) (fun w' => w' = wT X (kset K i (h, dM kk (kA K 3) k ma)) false t) := by
  refine met_start (by decide) (Nat.le_of_ble_eq_true rfl) ?_
  intro p e s m below meth c ls fx hS hl
  obtain ⟨hx, hb, hr, hml, hown, hG, hlk, hF, hz, hnm⟩ := fx
  have hown : s.vm.findClass RX5 = some m.cls := hown
  have hl : lv_has ls 4 [(0, .ref h), (1, .int k), (2, .int ma), (3, .ref (kA K 3))] := hl
  refine lv_aload_n hx hb dX5_init_0 rfl (lv_at hl 0 rfl) ?_
  refine lv_iload_n hx hb dX5_init_1 rfl (lv_at hl 1 rfl) ?_
  refine lv_iload_n hx hb dX5_init_2 rfl (lv_at hl 2 rfl) ?_
  refine lv_aload_n hx hb dX5_init_3 rfl (lv_at hl 3 rfl) ?_
  refine m_cv (m_runI (n := 3) (rest := []) ⟨hx, hb, hml, hown, hG⟩ (c_Dinit l X K t h i kk k ma 1 hi hk (by decide)) kw_190 kw_95 kw_21 kw_96 rfl (by decide +kernel) (rl_ok (by omega) (by decide)) hF hz hS rfl hl.1 rfl (Nat.le_of_ble_eq_true rfl) dX5_init_4 ⟨Nat.le_refl 0, Nat.le_refl 0⟩) hS (fun w1 H locs hw1 hS => ?_)
  subst hw1
  exact m_vret hx hb hr hlk hS rfl (Nat.le_refl 0) (Nat.le_refl 0) dX5_init_7
set_option maxHeartbeats 4000000 in
set_option maxRecDepth 100000 in
theorem c_Sinit (l : Launch) (X : Cx) (K : KT) (t : Tr) (h i kk : Nat) (k ma : Int32) (f : Nat) (hi : (kP K)[i]? = some (h, dN kk)) (hk : kk < 7) (hf : 3 ≤ f) : cV l yX4_init cX4_init 4 (rl f) X [.ref h, .int k, .int ma, .ref (kA K 3)] (wT X K false t) (fun w' => w' = wT X (kset K i (h, dM kk (kA K 3) k ma)) false t) := by
  refine met_start (by decide) (Nat.le_of_ble_eq_true rfl) ?_
  intro p e s m below meth c ls fx hS hl
  obtain ⟨hx, hb, hr, hml, hown, hG, hlk, hF, hz, hnm⟩ := fx
  have hown : s.vm.findClass RX4 = some m.cls := hown
  have hl : lv_has ls 4 [(0, .ref h), (1, .int k), (2, .int ma), (3, .ref (kA K 3))] := hl
  refine lv_aload_n hx hb dX4_init_0 rfl (lv_at hl 0 rfl) ?_
  refine lv_iload_n hx hb dX4_init_1 rfl (lv_at hl 1 rfl) ?_
  refine lv_iload_n hx hb dX4_init_2 rfl (lv_at hl 2 rfl) ?_
  refine lv_aload_n hx hb dX4_init_3 rfl (lv_at hl 3 rfl) ?_
  refine m_cv (m_runI (n := 3) (rest := []) ⟨hx, hb, hml, hown, hG⟩ (c_Yinit l X K t h i kk k ma 2 hi hk (by decide)) kw_145 kw_92 kw_22 kw_93 rfl (by decide +kernel) (rl_ok (by omega) (by decide)) hF hz hS rfl hl.1 rfl (Nat.le_of_ble_eq_true rfl) dX4_init_4 ⟨Nat.le_refl 0, Nat.le_refl 0⟩) hS (fun w1 H locs hw1 hS => ?_)
  subst hw1
  exact m_vret hx hb hr hlk hS rfl (Nat.le_refl 0) (Nat.le_refl 0) dX4_init_7
set_option maxHeartbeats 4000000 in
set_option maxRecDepth 100000 in
theorem c_Uinit (l : Launch) (X : Cx) (K : KT) (t : Tr) (h i kk : Nat) (k ma : Int32) (f : Nat) (hi : (kP K)[i]? = some (h, dN kk)) (hk : kk < 7) (hf : 3 ≤ f) : cV l yX1_init cX1_init 4 (rl f) X [.ref h, .int k, .int ma, .ref (kA K 3)] (wT X K false t) (fun w' => w' = wT X (kset K i (h, dM kk (kA K 3) k ma)) false t) := by
  refine met_start (by decide) (Nat.le_of_ble_eq_true rfl) ?_
  intro p e s m below meth c ls fx hS hl
  obtain ⟨hx, hb, hr, hml, hown, hG, hlk, hF, hz, hnm⟩ := fx
  have hown : s.vm.findClass RX1 = some m.cls := hown
  have hl : lv_has ls 4 [(0, .ref h), (1, .int k), (2, .int ma), (3, .ref (kA K 3))] := hl
  refine lv_aload_n hx hb dX1_init_0 rfl (lv_at hl 0 rfl) ?_
  refine lv_iload_n hx hb dX1_init_1 rfl (lv_at hl 1 rfl) ?_
  refine lv_iload_n hx hb dX1_init_2 rfl (lv_at hl 2 rfl) ?_
  refine lv_aload_n hx hb dX1_init_3 rfl (lv_at hl 3 rfl) ?_
  refine m_cv (m_runI (n := 3) (rest := []) ⟨hx, hb, hml, hown, hG⟩ (c_Winit l X K t h i kk k ma 2 hi hk (by decide)) kw_205 kw_188 kw_26 kw_189 rfl (by decide +kernel) (rl_ok (by omega) (by decide)) hF hz hS rfl hl.1 rfl (Nat.le_of_ble_eq_true rfl) dX1_init_4 ⟨Nat.le_refl 0, Nat.le_refl 0⟩) hS (fun w1 H locs hw1 hS => ?_)
  subst hw1
  exact m_vret hx hb hr hlk hS rfl (Nat.le_refl 0) (Nat.le_refl 0) dX1_init_7
set_option maxHeartbeats 4000000 in
set_option maxRecDepth 100000 in
theorem c_Rinit (l : Launch) (X : Cx) (K : KT) (t : Tr) (h i kk : Nat) (k ma : Int32) (f : Nat) (hi : (kP K)[i]? = some (h, dN kk)) (hk : kk < 7) (hf : 4 ≤ f) : cV l yX3_init cX3_init 4 (rl f) X [.ref h, .int k, .int ma, .ref (kA K 3)] (wT X K false t) (fun w' => w' = wT X (kset K i (h, dM kk (kA K 3) k ma)) false t) := by
  refine met_start (by decide) (Nat.le_of_ble_eq_true rfl) ?_
  intro p e s m below meth c ls fx hS hl
  obtain ⟨hx, hb, hr, hml, hown, hG, hlk, hF, hz, hnm⟩ := fx
  have hown : s.vm.findClass RX3 = some m.cls := hown
  have hl : lv_has ls 4 [(0, .ref h), (1, .int k), (2, .int ma), (3, .ref (kA K 3))] := hl
  refine lv_aload_n hx hb dX3_init_0 rfl (lv_at hl 0 rfl) ?_
  refine lv_iload_n hx hb dX3_init_1 rfl (lv_at hl 1 rfl) ?_
  refine lv_iload_n hx hb dX3_init_2 rfl (lv_at hl 2 rfl) ?_
  refine lv_aload_n hx hb dX3_init_3 rfl (lv_at hl 3 rfl) ?_
  refine m_cv (m_runI (n := 3) (rest := []) ⟨hx, hb, hml, hown, hG⟩ (c_Sinit l X K t h i kk k ma 3 hi hk (by decide)) kw_160 kw_143 kw_23 kw_144 rfl (by decide +kernel) (rl_ok (by omega) (by decide)) hF hz hS rfl hl.1 rfl (Nat.le_of_ble_eq_true rfl) dX3_init_4 ⟨Nat.le_refl 0, Nat.le_refl 0⟩) hS (fun w1 H locs hw1 hS => ?_)
  subst hw1
  exact m_vret hx hb hr hlk hS rfl (Nat.le_refl 0) (Nat.le_refl 0) dX3_init_7
set_option maxHeartbeats 4000000 in
set_option maxRecDepth 100000 in
theorem c_Binit (l : Launch) (X : Cx) (K : KT) (t : Tr) (h i kk : Nat) (k ma : Int32) (f : Nat) (hi : (kP K)[i]? = some (h, dN kk)) (hk : kk < 7) (hf : 5 ≤ f) : cV l yX0_init cX0_init 4 (rl f) X [.ref h, .int k, .int ma, .ref (kA K 3)] (wT X K false t) (fun w' => w' = wT X (kset K i (h, dM kk (kA K 3) k ma)) false t) := by
  refine met_start (by decide) (Nat.le_of_ble_eq_true rfl) ?_
  intro p e s m below meth c ls fx hS hl
  obtain ⟨hx, hb, hr, hml, hown, hG, hlk, hF, hz, hnm⟩ := fx
  have hown : s.vm.findClass RX0 = some m.cls := hown
  have hl : lv_has ls 4 [(0, .ref h), (1, .int k), (2, .int ma), (3, .ref (kA K 3))] := hl
  refine lv_aload_n hx hb dX0_init_0 rfl (lv_at hl 0 rfl) ?_
  refine lv_iload_n hx hb dX0_init_1 rfl (lv_at hl 1 rfl) ?_
  refine lv_iload_n hx hb dX0_init_2 rfl (lv_at hl 2 rfl) ?_
  refine lv_aload_n hx hb dX0_init_3 rfl (lv_at hl 3 rfl) ?_
  refine m_cv (m_runI (n := 3) (rest := []) ⟨hx, hb, hml, hown, hG⟩ (c_Rinit l X K t h i kk k ma 4 hi hk (by decide)) kw_175 kw_158 kw_24 kw_159 rfl (by decide +kernel) (rl_ok (by omega) (by decide)) hF hz hS rfl hl.1 rfl (Nat.le_of_ble_eq_true rfl) dX0_init_4 ⟨Nat.le_refl 0, Nat.le_refl 0⟩) hS (fun w1 H locs hw1 hS => ?_)
  subst hw1
  exact m_vret hx hb hr hlk hS rfl (Nat.le_refl 0) (Nat.le_refl 0) dX0_init_7
