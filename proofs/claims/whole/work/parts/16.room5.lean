/-- room with cells -/
def rr (f c s : Nat) : Room := { frames := f, cells := c, slots := s, locals := 27 * f }
theorem rr_ok {f f' c s mL : Nat} (h : f < f') (h2 : mL ≤ 8) : (rl f).frames + 1 ≤ (rr f' c s).frames ∧ 8 + (mL + 11) + (rl f).locals ≤ (rr f' c s).locals := rl_ok h h2
theorem rr_ok2 {f f' c s c' s' mL : Nat} (h : f < f') (h2 : mL ≤ 8) : (rr f c s).frames + 1 ≤ (rr f' c' s').frames ∧ 8 + (mL + 11) + (rr f c s).locals ≤ (rr f' c' s').locals := rl_ok h h2
def kpush (K : KT) (x : Nat × va_E) : KT := (K.1, K.2.1, K.2.2.1, K.2.2.2.1, K.2.2.2.2.1, K.2.2.2.2.2.1, K.2.2.2.2.2.2.1, K.2.2.2.2.2.2.2.1, K.2.2.2.2.2.2.2.2 ++ [x])
theorem kpush_at {K : KT} {x : Nat × va_E} : (kP (kpush K x))[(kP K).length]? = some x := by
  show ((kP K) ++ [x])[(kP K).length]? = some x
  rw [List.getElem?_append_right (Nat.le_refl _), Nat.sub_self]; rfl
theorem kpush_set {K : KT} {x y : Nat × va_E} : kset (kpush K x) (kP K).length y = kpush K y := by
  show (K.1, K.2.1, K.2.2.1, K.2.2.2.1, K.2.2.2.2.1, K.2.2.2.2.2.1, K.2.2.2.2.2.2.1, K.2.2.2.2.2.2.2.1, ((kP K) ++ [x]).set (kP K).length y) = _
  rw [List.set_append_right _ _ (Nat.le_refl _), Nat.sub_self]; rfl
set_option maxHeartbeats 4000000 in
set_option maxRecDepth 100000 in
theorem c_knead (l : Launch) (X : Cx) (K : KT) (t : Tr) (kk : Nat) (ma : Int32) (f : Nat) (hk : kk < 7) (hf : 6 ≤ f) : cQ l yX8_knead cX8_knead 3 (some (.object "DoughRoom$Dough")) (rr f 1 8) X [.ref (kA K 0), .int (nI kk), .int ma] (wT X K false t) (fun o w => ∃ h, o = some h ∧ w = wT X (kpush K (h, dM kk (kA K 3) (nI kk) ma)) false t) := by
  refine met_start (by decide) (Nat.le_of_ble_eq_true rfl) ?_
  intro p e s m below meth c ls fx hS hl
  obtain ⟨hx, hb, hr, hml, hown, hG, hlk, hF, hz, hnm⟩ := fx
  have hown : s.vm.findClass RX8 = some m.cls := hown
  have hl : lv_has ls 3 [(0, .ref (kA K 0)), (1, .int (nI kk)), (2, .int ma)] := hl
  refine lv_iload_n hx hb dX8_knead_0 rfl (lv_at hl 1 rfl) ?_
  match kk, hk with
  | 0, _ =>
    refine lv_tableOut (tgt := 124) hx hb dX8_knead_1 (by decide) (by decide) ?_
    refine m_new hx hb hG hown hF hz hS (ci := 0) rfl iG_0 tyX2_ok kw_37 kw_215 kw_21 [.int 0, .int 0, .null, .int 0, .int 0, .int 0, .int 0, .int 0] (fun j hj => by rcases (show j = 0 ∨ j = 1 ∨ j = 2 ∨ j = 3 ∨ j = 4 ∨ j = 5 ∨ j = 6 ∨ j = 7 by omega) with rfl | rfl | rfl | rfl | rfl | rfl | rfl | rfl <;> rfl) (Nat.le_refl 1) (Nat.le_refl 8) dX8_knead_124 (fun h H hS => ?_)
    have hS : mS X s (wT X (kpush K (h, dN 0)) false t) H [] := hS
    refine lv_dup hx hb dX8_knead_127 rfl ?_
    refine lv_iload_n hx hb dX8_knead_128 rfl (lv_at hl 1 rfl) ?_
    refine lv_iload_n hx hb dX8_knead_129 rfl (lv_at hl 2 rfl) ?_
    refine lv_aload_n hx hb dX8_knead_130 rfl (lv_at hl 0 rfl) ?_
    refine m_get (v := .ref (kA K 3)) hx hb hG hown hF hS (10) rfl rfl iG_8 2 (by decide) kw_58 (fun _ h9 => h9) rfl dX8_knead_131 ?_
    refine m_cv (m_runI (n := 3) (rest := [.ref h]) ⟨hx, hb, hml, hown, hG⟩ (c_Dinit l X (kpush K (h, dN 0)) t h (kP K).length 0 (nI 0) ma 1 kpush_at (by decide) (by decide)) kw_216 kw_95 kw_21 kw_96 rfl (by decide +kernel) (rr_ok (by omega) (by decide)) hF hz hS rfl hl.1 rfl (Nat.le_of_ble_eq_true rfl) dX8_knead_134 ⟨Nat.le_refl 1, Nat.le_refl 8⟩) hS (fun w1 H locs hw1 hS => ?_)
    subst hw1
    rw [kpush_set] at hS
    exact m_qret (r := some h) hx hb hr hlk hS ⟨h, rfl, rfl⟩ (Nat.le_refl 1) (Nat.le_refl 8) dX8_knead_137
  | 1, _ =>
    refine lv_tableIn (off := 39) (tgt := 40) hx hb dX8_knead_1 (by decide) (by decide) (by decide) (by decide) ?_
    refine m_new hx hb hG hown hF hz hS (ci := 1) rfl iG_1 tyX2_ok kw_89 kw_90 kw_22 [.int 0, .int 0, .null, .int 0, .int 0, .int 0, .int 0, .int 0] (fun j hj => by rcases (show j = 0 ∨ j = 1 ∨ j = 2 ∨ j = 3 ∨ j = 4 ∨ j = 5 ∨ j = 6 ∨ j = 7 by omega) with rfl | rfl | rfl | rfl | rfl | rfl | rfl | rfl <;> rfl) (Nat.le_refl 1) (Nat.le_refl 8) dX8_knead_40 (fun h H hS => ?_)
    have hS : mS X s (wT X (kpush K (h, dN 1)) false t) H [] := hS
    refine lv_dup hx hb dX8_knead_43 rfl ?_
    refine lv_iload_n hx hb dX8_knead_44 rfl (lv_at hl 1 rfl) ?_
    refine lv_iload_n hx hb dX8_knead_45 rfl (lv_at hl 2 rfl) ?_
    refine lv_aload_n hx hb dX8_knead_46 rfl (lv_at hl 0 rfl) ?_
    refine m_get (v := .ref (kA K 3)) hx hb hG hown hF hS (10) rfl rfl iG_8 2 (by decide) kw_58 (fun _ h9 => h9) rfl dX8_knead_47 ?_
    refine m_cv (m_runI (n := 3) (rest := [.ref h]) ⟨hx, hb, hml, hown, hG⟩ (c_Yinit l X (kpush K (h, dN 1)) t h (kP K).length 1 (nI 1) ma 2 kpush_at (by decide) (by decide)) kw_91 kw_92 kw_22 kw_93 rfl (by decide +kernel) (rr_ok (by omega) (by decide)) hF hz hS rfl hl.1 rfl (Nat.le_of_ble_eq_true rfl) dX8_knead_50 ⟨Nat.le_refl 1, Nat.le_refl 8⟩) hS (fun w1 H locs hw1 hS => ?_)
    subst hw1
    rw [kpush_set] at hS
    exact m_qret (r := some h) hx hb hr hlk hS ⟨h, rfl, rfl⟩ (Nat.le_refl 1) (Nat.le_refl 8) dX8_knead_53
  | 2, _ =>
    refine lv_tableIn (off := 53) (tgt := 54) hx hb dX8_knead_1 (by decide) (by decide) (by decide) (by decide) ?_
    refine m_new hx hb hG hown hF hz hS (ci := 2) rfl iG_2 tyX2_ok kw_140 kw_141 kw_23 [.int 0, .int 0, .null, .int 0, .int 0, .int 0, .int 0, .int 0] (fun j hj => by rcases (show j = 0 ∨ j = 1 ∨ j = 2 ∨ j = 3 ∨ j = 4 ∨ j = 5 ∨ j = 6 ∨ j = 7 by omega) with rfl | rfl | rfl | rfl | rfl | rfl | rfl | rfl <;> rfl) (Nat.le_refl 1) (Nat.le_refl 8) dX8_knead_54 (fun h H hS => ?_)
    have hS : mS X s (wT X (kpush K (h, dN 2)) false t) H [] := hS
    refine lv_dup hx hb dX8_knead_57 rfl ?_
    refine lv_iload_n hx hb dX8_knead_58 rfl (lv_at hl 1 rfl) ?_
    refine lv_iload_n hx hb dX8_knead_59 rfl (lv_at hl 2 rfl) ?_
    refine lv_aload_n hx hb dX8_knead_60 rfl (lv_at hl 0 rfl) ?_
    refine m_get (v := .ref (kA K 3)) hx hb hG hown hF hS (10) rfl rfl iG_8 2 (by decide) kw_58 (fun _ h9 => h9) rfl dX8_knead_61 ?_
    refine m_cv (m_runI (n := 3) (rest := [.ref h]) ⟨hx, hb, hml, hown, hG⟩ (c_Sinit l X (kpush K (h, dN 2)) t h (kP K).length 2 (nI 2) ma 3 kpush_at (by decide) (by decide)) kw_142 kw_143 kw_23 kw_144 rfl (by decide +kernel) (rr_ok (by omega) (by decide)) hF hz hS rfl hl.1 rfl (Nat.le_of_ble_eq_true rfl) dX8_knead_64 ⟨Nat.le_refl 1, Nat.le_refl 8⟩) hS (fun w1 H locs hw1 hS => ?_)
    subst hw1
    rw [kpush_set] at hS
    exact m_qret (r := some h) hx hb hr hlk hS ⟨h, rfl, rfl⟩ (Nat.le_refl 1) (Nat.le_refl 8) dX8_knead_67
  | 3, _ =>
    refine lv_tableIn (off := 67) (tgt := 68) hx hb dX8_knead_1 (by decide) (by decide) (by decide) (by decide) ?_
    refine m_new hx hb hG hown hF hz hS (ci := 3) rfl iG_3 tyX2_ok kw_155 kw_156 kw_24 [.int 0, .int 0, .null, .int 0, .int 0, .int 0, .int 0, .int 0] (fun j hj => by rcases (show j = 0 ∨ j = 1 ∨ j = 2 ∨ j = 3 ∨ j = 4 ∨ j = 5 ∨ j = 6 ∨ j = 7 by omega) with rfl | rfl | rfl | rfl | rfl | rfl | rfl | rfl <;> rfl) (Nat.le_refl 1) (Nat.le_refl 8) dX8_knead_68 (fun h H hS => ?_)
    have hS : mS X s (wT X (kpush K (h, dN 3)) false t) H [] := hS
    refine lv_dup hx hb dX8_knead_71 rfl ?_
    refine lv_iload_n hx hb dX8_knead_72 rfl (lv_at hl 1 rfl) ?_
    refine lv_iload_n hx hb dX8_knead_73 rfl (lv_at hl 2 rfl) ?_
    refine lv_aload_n hx hb dX8_knead_74 rfl (lv_at hl 0 rfl) ?_
    refine m_get (v := .ref (kA K 3)) hx hb hG hown hF hS (10) rfl rfl iG_8 2 (by decide) kw_58 (fun _ h9 => h9) rfl dX8_knead_75 ?_
    refine m_cv (m_runI (n := 3) (rest := [.ref h]) ⟨hx, hb, hml, hown, hG⟩ (c_Rinit l X (kpush K (h, dN 3)) t h (kP K).length 3 (nI 3) ma 4 kpush_at (by decide) (by decide)) kw_157 kw_158 kw_24 kw_159 rfl (by decide +kernel) (rr_ok (by omega) (by decide)) hF hz hS rfl hl.1 rfl (Nat.le_of_ble_eq_true rfl) dX8_knead_78 ⟨Nat.le_refl 1, Nat.le_refl 8⟩) hS (fun w1 H locs hw1 hS => ?_)
    subst hw1
    rw [kpush_set] at hS
    exact m_qret (r := some h) hx hb hr hlk hS ⟨h, rfl, rfl⟩ (Nat.le_refl 1) (Nat.le_refl 8) dX8_knead_81
  | 4, _ =>
    refine lv_tableIn (off := 81) (tgt := 82) hx hb dX8_knead_1 (by decide) (by decide) (by decide) (by decide) ?_
    refine m_new hx hb hG hown hF hz hS (ci := 4) rfl iG_4 tyX2_ok kw_170 kw_171 kw_25 [.int 0, .int 0, .null, .int 0, .int 0, .int 0, .int 0, .int 0] (fun j hj => by rcases (show j = 0 ∨ j = 1 ∨ j = 2 ∨ j = 3 ∨ j = 4 ∨ j = 5 ∨ j = 6 ∨ j = 7 by omega) with rfl | rfl | rfl | rfl | rfl | rfl | rfl | rfl <;> rfl) (Nat.le_refl 1) (Nat.le_refl 8) dX8_knead_82 (fun h H hS => ?_)
    have hS : mS X s (wT X (kpush K (h, dN 4)) false t) H [] := hS
    refine lv_dup hx hb dX8_knead_85 rfl ?_
    refine lv_iload_n hx hb dX8_knead_86 rfl (lv_at hl 1 rfl) ?_
    refine lv_iload_n hx hb dX8_knead_87 rfl (lv_at hl 2 rfl) ?_
    refine lv_aload_n hx hb dX8_knead_88 rfl (lv_at hl 0 rfl) ?_
    refine m_get (v := .ref (kA K 3)) hx hb hG hown hF hS (10) rfl rfl iG_8 2 (by decide) kw_58 (fun _ h9 => h9) rfl dX8_knead_89 ?_
    refine m_cv (m_runI (n := 3) (rest := [.ref h]) ⟨hx, hb, hml, hown, hG⟩ (c_Binit l X (kpush K (h, dN 4)) t h (kP K).length 4 (nI 4) ma 5 kpush_at (by decide) (by decide)) kw_172 kw_173 kw_25 kw_174 rfl (by decide +kernel) (rr_ok (by omega) (by decide)) hF hz hS rfl hl.1 rfl (Nat.le_of_ble_eq_true rfl) dX8_knead_92 ⟨Nat.le_refl 1, Nat.le_refl 8⟩) hS (fun w1 H locs hw1 hS => ?_)
    subst hw1
    rw [kpush_set] at hS
    exact m_qret (r := some h) hx hb hr hlk hS ⟨h, rfl, rfl⟩ (Nat.le_refl 1) (Nat.le_refl 8) dX8_knead_95
  | 5, _ =>
    refine lv_tableIn (off := 95) (tgt := 96) hx hb dX8_knead_1 (by decide) (by decide) (by decide) (by decide) ?_
    refine m_new hx hb hG hown hF hz hS (ci := 5) rfl iG_5 tyX2_ok kw_185 kw_186 kw_26 [.int 0, .int 0, .null, .int 0, .int 0, .int 0, .int 0, .int 0] (fun j hj => by rcases (show j = 0 ∨ j = 1 ∨ j = 2 ∨ j = 3 ∨ j = 4 ∨ j = 5 ∨ j = 6 ∨ j = 7 by omega) with rfl | rfl | rfl | rfl | rfl | rfl | rfl | rfl <;> rfl) (Nat.le_refl 1) (Nat.le_refl 8) dX8_knead_96 (fun h H hS => ?_)
    have hS : mS X s (wT X (kpush K (h, dN 5)) false t) H [] := hS
    refine lv_dup hx hb dX8_knead_99 rfl ?_
    refine lv_iload_n hx hb dX8_knead_100 rfl (lv_at hl 1 rfl) ?_
    refine lv_iload_n hx hb dX8_knead_101 rfl (lv_at hl 2 rfl) ?_
    refine lv_aload_n hx hb dX8_knead_102 rfl (lv_at hl 0 rfl) ?_
    refine m_get (v := .ref (kA K 3)) hx hb hG hown hF hS (10) rfl rfl iG_8 2 (by decide) kw_58 (fun _ h9 => h9) rfl dX8_knead_103 ?_
    refine m_cv (m_runI (n := 3) (rest := [.ref h]) ⟨hx, hb, hml, hown, hG⟩ (c_Winit l X (kpush K (h, dN 5)) t h (kP K).length 5 (nI 5) ma 2 kpush_at (by decide) (by decide)) kw_187 kw_188 kw_26 kw_189 rfl (by decide +kernel) (rr_ok (by omega) (by decide)) hF hz hS rfl hl.1 rfl (Nat.le_of_ble_eq_true rfl) dX8_knead_106 ⟨Nat.le_refl 1, Nat.le_refl 8⟩) hS (fun w1 H locs hw1 hS => ?_)
    subst hw1
    rw [kpush_set] at hS
    exact m_qret (r := some h) hx hb hr hlk hS ⟨h, rfl, rfl⟩ (Nat.le_refl 1) (Nat.le_refl 8) dX8_knead_109
  | 6, _ =>
    refine lv_tableIn (off := 109) (tgt := 110) hx hb dX8_knead_1 (by decide) (by decide) (by decide) (by decide) ?_
    refine m_new hx hb hG hown hF hz hS (ci := 6) rfl iG_6 tyX2_ok kw_200 kw_201 kw_27 [.int 0, .int 0, .null, .int 0, .int 0, .int 0, .int 0, .int 0] (fun j hj => by rcases (show j = 0 ∨ j = 1 ∨ j = 2 ∨ j = 3 ∨ j = 4 ∨ j = 5 ∨ j = 6 ∨ j = 7 by omega) with rfl | rfl | rfl | rfl | rfl | rfl | rfl | rfl <;> rfl) (Nat.le_refl 1) (Nat.le_refl 8) dX8_knead_110 (fun h H hS => ?_)
    have hS : mS X s (wT X (kpush K (h, dN 6)) false t) H [] := hS
    refine lv_dup hx hb dX8_knead_113 rfl ?_
    refine lv_iload_n hx hb dX8_knead_114 rfl (lv_at hl 1 rfl) ?_
    refine lv_iload_n hx hb dX8_knead_115 rfl (lv_at hl 2 rfl) ?_
    refine lv_aload_n hx hb dX8_knead_116 rfl (lv_at hl 0 rfl) ?_
    refine m_get (v := .ref (kA K 3)) hx hb hG hown hF hS (10) rfl rfl iG_8 2 (by decide) kw_58 (fun _ h9 => h9) rfl dX8_knead_117 ?_
    refine m_cv (m_runI (n := 3) (rest := [.ref h]) ⟨hx, hb, hml, hown, hG⟩ (c_Uinit l X (kpush K (h, dN 6)) t h (kP K).length 6 (nI 6) ma 3 kpush_at (by decide) (by decide)) kw_202 kw_203 kw_27 kw_204 rfl (by decide +kernel) (rr_ok (by omega) (by decide)) hF hz hS rfl hl.1 rfl (Nat.le_of_ble_eq_true rfl) dX8_knead_120 ⟨Nat.le_refl 1, Nat.le_refl 8⟩) hS (fun w1 H locs hw1 hS => ?_)
    subst hw1
    rw [kpush_set] at hS
    exact m_qret (r := some h) hx hb hr hlk hS ⟨h, rfl, rfl⟩ (Nat.le_refl 1) (Nat.le_refl 8) dX8_knead_123
set_option maxHeartbeats 4000000 in
set_option maxRecDepth 100000 in
theorem c_batch_bad (l : Launch) (X : Cx) (q : Nat → Nat × va_E) (A : Nat → Nat) (n : Nat) (ad : Nat → Nat) (g : Nat → Rc) (wm dy tl : Int32) (hs : Nat → Int32) (t : Tr) (k ma : Int32) (f : Nat) (hf : 7 ≤ f) (h0 : inB k 0 6 = 0 ∨ inB ma 1 500 = 0) : cI l yX8_batch cX8_batch 3 (some .int) (rr f 1 8) X [.ref (A 0), .int k, .int ma] (wT X (kC q A n ad g wm dy tl hs) false t) (fun r w => r = -2 ∧ w = wT X (kC q A n ad g wm dy tl hs) false t) := by
  refine met_start (by decide) (Nat.le_of_ble_eq_true rfl) ?_
  intro p e s m below meth c ls fx hS hl
  obtain ⟨hx, hb, hr, hml, hown, hG, hlk, hF, hz, hnm⟩ := fx
  have hown : s.vm.findClass RX8 = some m.cls := hown
  have hl : lv_has ls 3 [(0, .ref (A 0)), (1, .int k), (2, .int ma)] := hl
  refine lv_iload_n hx hb dX8_batch_0 rfl (lv_at hl 1 rfl) ?_
  refine lv_iconst (v := 0) hx hb dX8_batch_1 (by decide) ?_
  refine lv_bipush (v := 6) hx hb dX8_batch_2 (by decide) ?_
  refine m_ci (m_runS (n := 3) (rest := []) ⟨hx, hb, hml, hown, hG⟩ (c_within l X (wT X (kC q A n ad g wm dy tl hs) false t) k 0 6 0) kw_82 kw_83 kw_18 kw_84 (by decide +kernel) (rr_ok (by omega) (by decide)) hF hz hS rfl hl.1 rfl (Nat.le_of_ble_eq_true rfl) dX8_batch_4 ⟨Nat.zero_le _, Nat.zero_le _⟩) hS (fun r_1 w1 H locs hw1 hS => ?_)
  obtain ⟨rfl, rfl⟩ := hw1
  refine lv_if_eq (tgt := 21) hx hb dX8_batch_7 (by decide) (fun c_2 => ?_) (fun c_2 => ?_)
  · refine lv_bipush (v := -2) hx hb dX8_batch_21 (by decide) ?_
    exact m_iret hx hb hr hlk hS ⟨rfl, rfl⟩ (Nat.zero_le _) (Nat.zero_le _) dX8_batch_23
  · refine lv_iload_n hx hb dX8_batch_10 rfl (lv_at hl 2 rfl) ?_
    refine lv_iconst (v := 1) hx hb dX8_batch_11 (by decide) ?_
    refine lv_sipush (v := 500) hx hb dX8_batch_12 (by decide) ?_
    refine m_ci (m_runS (n := 3) (rest := []) ⟨hx, hb, hml, hown, hG⟩ (c_within l X (wT X (kC q A n ad g wm dy tl hs) false t) ma 1 500 0) kw_82 kw_83 kw_18 kw_84 (by decide +kernel) (rr_ok (by omega) (by decide)) hF hz hS rfl hl.1 rfl (Nat.le_of_ble_eq_true rfl) dX8_batch_15 ⟨Nat.zero_le _, Nat.zero_le _⟩) hS (fun r_3 w2 H locs hw2 hS => ?_)
    obtain ⟨rfl, rfl⟩ := hw2
    refine lv_if_ne (tgt := 24) hx hb dX8_batch_18 (by decide) (fun c_4 => absurd (h0.resolve_left c_2) c_4) (fun c_4 => ?_)
    refine lv_bipush (v := -2) hx hb dX8_batch_21 (by decide) ?_
    exact m_iret hx hb hr hlk hS ⟨rfl, rfl⟩ (Nat.zero_le _) (Nat.zero_le _) dX8_batch_23
set_option maxHeartbeats 4000000 in
set_option maxRecDepth 100000 in
theorem c_batch_full (l : Launch) (X : Cx) (q : Nat → Nat × va_E) (A : Nat → Nat) (n : Nat) (ad : Nat → Nat) (g : Nat → Rc) (wm dy tl : Int32) (hs : Nat → Int32) (t : Tr) (k ma : Int32) (f : Nat) (hf : 7 ≤ f) (h0 : ¬ inB k 0 6 = 0) (h1 : ¬ inB ma 1 500 = 0) (h2 : n = 40) : cI l yX8_batch cX8_batch 3 (some .int) (rr f 1 8) X [.ref (A 0), .int k, .int ma] (wT X (kC q A n ad g wm dy tl hs) false t) (fun r w => r = -4 ∧ w = wT X (kC q A n ad g wm dy tl hs) false t) := by
  refine met_start (by decide) (Nat.le_of_ble_eq_true rfl) ?_
  intro p e s m below meth c ls fx hS hl
  obtain ⟨hx, hb, hr, hml, hown, hG, hlk, hF, hz, hnm⟩ := fx
  have hown : s.vm.findClass RX8 = some m.cls := hown
  have hl : lv_has ls 3 [(0, .ref (A 0)), (1, .int k), (2, .int ma)] := hl
  refine lv_iload_n hx hb dX8_batch_0 rfl (lv_at hl 1 rfl) ?_
  refine lv_iconst (v := 0) hx hb dX8_batch_1 (by decide) ?_
  refine lv_bipush (v := 6) hx hb dX8_batch_2 (by decide) ?_
  refine m_ci (m_runS (n := 3) (rest := []) ⟨hx, hb, hml, hown, hG⟩ (c_within l X (wT X (kC q A n ad g wm dy tl hs) false t) (k) 0 6 0) kw_82 kw_83 kw_18 kw_84 (by decide +kernel) (rr_ok (by omega) (by decide)) hF hz hS rfl hl.1 rfl (Nat.le_of_ble_eq_true rfl) dX8_batch_4 ⟨Nat.zero_le _, Nat.zero_le _⟩) hS (fun r_1 w1 H locs hw1 hS => ?_)
  obtain ⟨rfl, rfl⟩ := hw1
  refine lv_if_eq (tgt := 21) hx hb dX8_batch_7 (by decide) (fun c_2 => absurd c_2 (h0)) (fun c_2 => ?_)
  refine lv_iload_n hx hb dX8_batch_10 rfl (lv_at hl 2 rfl) ?_
  refine lv_iconst (v := 1) hx hb dX8_batch_11 (by decide) ?_
  refine lv_sipush (v := 500) hx hb dX8_batch_12 (by decide) ?_
  refine m_ci (m_runS (n := 3) (rest := []) ⟨hx, hb, hml, hown, hG⟩ (c_within l X (wT X (kC q A n ad g wm dy tl hs) false t) ma 1 500 0) kw_82 kw_83 kw_18 kw_84 (by decide +kernel) (rr_ok (by omega) (by decide)) hF hz hS rfl hl.1 rfl (Nat.le_of_ble_eq_true rfl) dX8_batch_15 ⟨Nat.zero_le _, Nat.zero_le _⟩) hS (fun r_3 w2 H locs hw2 hS => ?_)
  obtain ⟨rfl, rfl⟩ := hw2
  refine lv_if_ne (tgt := 24) hx hb dX8_batch_18 (by decide) (fun c_4 => ?_) (fun c_4 => absurd c_4 (h1))
  refine lv_aload_n hx hb dX8_batch_24 rfl (lv_at hl 0 rfl) ?_
  refine m_get (v := .int (nI n)) hx hb hG hown hF hS (10) rfl rfl iG_8 3 (by decide) kw_59 (fun _ h9 => h9) rfl dX8_batch_25 ?_
  refine lv_if_lt (tgt := 43) hx hb dX8_batch_28 (by decide) (fun c_5 => absurd c_5 (nI_pos (by omega))) (fun c_5 => ?_)
  refine lv_aload_n hx hb dX8_batch_31 rfl (lv_at hl 0 rfl) ?_
  refine m_get (v := .int (nI n)) hx hb hG hown hF hS (10) rfl rfl iG_8 3 (by decide) kw_59 (fun _ h9 => h9) rfl dX8_batch_32 ?_
  refine lv_aload_n hx hb dX8_batch_35 rfl (lv_at hl 0 rfl) ?_
  refine m_get (v := .ref (A 1)) hx hb hG hown hF hS (10) rfl rfl iG_8 0 (by decide) kw_56 (fun _ h9 => h9) rfl dX8_batch_36 ?_
  refine m_alenQ hx hb hF hS (11) rfl dX8_batch_39 ?_
  refine lv_icmp_lt (tgt := 46) hx hb dX8_batch_40 (by decide) (fun c_6 => absurd c_6 (by rw [h2]; decide)) (fun c_6 => ?_)
  refine lv_bipush (v := -4) hx hb dX8_batch_43 (by decide) ?_
  exact m_iret hx hb hr hlk hS ⟨rfl, rfl⟩ (Nat.zero_le _) (Nat.zero_le _) dX8_batch_45
/-- a batch at its beginning -/
def rec0 (k m : Int32) : Rc := fun f => if f = 0 then k else if f = 1 then m else 0
theorem rec0_E {T kk : Nat} {m : Int32} (h : kk < 7) : dE T (rec0 (nI kk) m) = dM kk T (nI kk) m := by
  show Sum.inr (kd (rec0 (nI kk) m), dfs T (rec0 (nI kk) m)) = _
  rw [show kd (rec0 (nI kk) m) = kk from nI_clamp (n := kk) (by omega)]
  rfl
theorem bfn_push {n a : Nat} {ad : Nat → Nat} : va_up (bfn n ad) n (some a) = bfn (n + 1) (va_up ad n a) := by
  funext j
  by_cases h : j = n
  · subst h; rw [va_up_self, bfn_in (Nat.lt_succ_self j), va_up_self]
  · rw [va_up_ne _ _ h]
    by_cases h2 : j < n
    · rw [bfn_in h2, bfn_in (by omega), va_up_ne _ _ h]
    · rw [bfn_out (by omega), bfn_out (by omega)]
theorem pool_push {T n a : Nat} {ad : Nat → Nat} {g : Nat → Rc} {rc : Rc} : pool T n ad g ++ [(a, dE T rc)] = pool T (n + 1) (va_up ad n a) (va_up g n rc) := by
  apply List.ext_getElem?
  intro j
  by_cases h : j = n
  · subst h
    rw [pool_at (Nat.lt_succ_self j), va_up_self, va_up_self, List.getElem?_append_right (by rw [pool_len]; exact Nat.le_refl _), pool_len, Nat.sub_self]; rfl
  · by_cases h2 : j < n
    · rw [pool_at (by omega), va_up_ne _ _ h, va_up_ne _ _ h, List.getElem?_append_left (by rw [pool_len]; exact h2), pool_at h2]
    · rw [List.getElem?_eq_none (by rw [List.length_append, pool_len]; simp; omega), List.getElem?_eq_none (by rw [pool_len]; omega)]
set_option maxHeartbeats 4000000 in
set_option maxRecDepth 100000 in
theorem c_batch (l : Launch) (X : Cx) (q : Nat → Nat × va_E) (A : Nat → Nat) (n : Nat) (ad : Nat → Nat) (g : Nat → Rc) (wm dy tl : Int32) (hs : Nat → Int32) (t : Tr) (kk : Nat) (ma : Int32) (f : Nat) (hf : 7 ≤ f) (hk : kk < 7) (h0 : ¬ inB (nI kk) 0 6 = 0) (h1 : ¬ inB ma 1 500 = 0) (h2 : n < 40) : cI l yX8_batch cX8_batch 3 (some .int) (rr f 1 8) X [.ref (A 0), .int (nI kk), .int ma] (wT X (kC q A n ad g wm dy tl hs) false t) (fun r w => ∃ h, r = nI n ∧ w = wT X (kC q A (n + 1) (va_up ad n h) (va_up g n (rec0 (nI kk) ma)) wm dy tl hs) false t) := by
  refine met_start (by decide) (Nat.le_of_ble_eq_true rfl) ?_
  intro p e s m below meth c ls fx hS hl
  obtain ⟨hx, hb, hr, hml, hown, hG, hlk, hF, hz, hnm⟩ := fx
  have hown : s.vm.findClass RX8 = some m.cls := hown
  have hl : lv_has ls 3 [(0, .ref (A 0)), (1, .int (nI kk)), (2, .int ma)] := hl
  refine lv_iload_n hx hb dX8_batch_0 rfl (lv_at hl 1 rfl) ?_
  refine lv_iconst (v := 0) hx hb dX8_batch_1 (by decide) ?_
  refine lv_bipush (v := 6) hx hb dX8_batch_2 (by decide) ?_
  refine m_ci (m_runS (n := 3) (rest := []) ⟨hx, hb, hml, hown, hG⟩ (c_within l X (wT X (kC q A n ad g wm dy tl hs) false t) (nI kk) 0 6 0) kw_82 kw_83 kw_18 kw_84 (by decide +kernel) (rr_ok (by omega) (by decide)) hF hz hS rfl hl.1 rfl (Nat.le_of_ble_eq_true rfl) dX8_batch_4 ⟨Nat.zero_le _, Nat.zero_le _⟩) hS (fun r_1 w1 H locs hw1 hS => ?_)
  obtain ⟨rfl, rfl⟩ := hw1
  refine lv_if_eq (tgt := 21) hx hb dX8_batch_7 (by decide) (fun c_2 => absurd c_2 (h0)) (fun c_2 => ?_)
  refine lv_iload_n hx hb dX8_batch_10 rfl (lv_at hl 2 rfl) ?_
  refine lv_iconst (v := 1) hx hb dX8_batch_11 (by decide) ?_
  refine lv_sipush (v := 500) hx hb dX8_batch_12 (by decide) ?_
  refine m_ci (m_runS (n := 3) (rest := []) ⟨hx, hb, hml, hown, hG⟩ (c_within l X (wT X (kC q A n ad g wm dy tl hs) false t) ma 1 500 0) kw_82 kw_83 kw_18 kw_84 (by decide +kernel) (rr_ok (by omega) (by decide)) hF hz hS rfl hl.1 rfl (Nat.le_of_ble_eq_true rfl) dX8_batch_15 ⟨Nat.zero_le _, Nat.zero_le _⟩) hS (fun r_3 w2 H locs hw2 hS => ?_)
  obtain ⟨rfl, rfl⟩ := hw2
  refine lv_if_ne (tgt := 24) hx hb dX8_batch_18 (by decide) (fun c_4 => ?_) (fun c_4 => absurd c_4 (h1))
  refine lv_aload_n hx hb dX8_batch_24 rfl (lv_at hl 0 rfl) ?_
  refine m_get (v := .int (nI n)) hx hb hG hown hF hS (10) rfl rfl iG_8 3 (by decide) kw_59 (fun _ h9 => h9) rfl dX8_batch_25 ?_
  refine lv_if_lt (tgt := 43) hx hb dX8_batch_28 (by decide) (fun c_5 => absurd c_5 (nI_pos (by omega))) (fun c_5 => ?_)
  refine lv_aload_n hx hb dX8_batch_31 rfl (lv_at hl 0 rfl) ?_
  refine m_get (v := .int (nI n)) hx hb hG hown hF hS (10) rfl rfl iG_8 3 (by decide) kw_59 (fun _ h9 => h9) rfl dX8_batch_32 ?_
  refine lv_aload_n hx hb dX8_batch_35 rfl (lv_at hl 0 rfl) ?_
  refine m_get (v := .ref (A 1)) hx hb hG hown hF hS (10) rfl rfl iG_8 0 (by decide) kw_56 (fun _ h9 => h9) rfl dX8_batch_36 ?_
  refine m_alenQ hx hb hF hS (11) rfl dX8_batch_39 ?_
  refine lv_icmp_lt (tgt := 46) hx hb dX8_batch_40 (by decide) (fun c_6 => ?_) (fun c_6 => absurd (nI_lt h2 (by decide)) c_6)
  refine lv_aload_n hx hb dX8_batch_46 rfl (lv_at hl 0 rfl) ?_
  refine m_get (v := .ref (A 1)) hx hb hG hown hF hS (10) rfl rfl iG_8 0 (by decide) kw_56 (fun _ h9 => h9) rfl dX8_batch_47 ?_
  refine lv_aload_n hx hb dX8_batch_50 rfl (lv_at hl 0 rfl) ?_
  refine m_get (v := .int (nI n)) hx hb hG hown hF hS (10) rfl rfl iG_8 3 (by decide) kw_59 (fun _ h9 => h9) rfl dX8_batch_51 ?_
  refine lv_aload_n hx hb dX8_batch_54 rfl (lv_at hl 0 rfl) ?_
  refine lv_iload_n hx hb dX8_batch_55 rfl (lv_at hl 1 rfl) ?_
  refine lv_iload_n hx hb dX8_batch_56 rfl (lv_at hl 2 rfl) ?_
  refine m_cq (m_runV (n := 2) (rest := [.int (nI n), .ref (A 1)]) ⟨hx, hb, hml, hown, hG⟩ (c_knead l X (kC q A n ad g wm dy tl hs) t kk ma 6 hk (by decide)) kw_85 kw_87 kw_0 kw_18 kw_88 (by decide +kernel) (rr_ok2 (by omega) (by decide)) hF hz hS (q0 := 10) rfl rfl rfl hl.1 rfl (Nat.le_of_ble_eq_true rfl) dX8_batch_57 ⟨Nat.le_refl 1, Nat.le_refl 8⟩) hS (fun o_7 w3 H locs hw3 hS => ?_)
  obtain ⟨h, rfl, rfl⟩ := hw3
  have hv : (wT X (kpush (kC q A n ad g wm dy tl hs) (h, dM kk (A 3) (nI kk) ma)) false t)[n + 15]? = some (h, dM kk (A 3) (nI kk) ma) := by
    have h9 := kpush_at (K := (kC q A n ad g wm dy tl hs)) (x := (h, dM kk (A 3) (nI kk) ma))
    rw [show (kP (kC q A n ad g wm dy tl hs)).length = n from pool_len] at h9
    exact h9
  refine m_astq hx hb hF hS 11 (n + 15) rfl hv hk n rfl h2 (by decide) (wT X (q, A, nI n, wm, dy, tl, va_up (bfn n ad) n (some h), hs, pool (A 3) n ad g ++ [(h, dM kk (A 3) (nI kk) ma)]) false t) rfl dX8_batch_60 (fun H locs hS => ?_)
  refine lv_aload_n hx hb dX8_batch_61 rfl (lv_at hl 0 rfl) ?_
  refine lv_dup hx hb dX8_batch_62 rfl ?_
  refine m_get (v := .int (nI n)) hx hb hG hown hF hS (10) rfl rfl iG_8 3 (by decide) kw_59 (fun _ h9 => h9) rfl dX8_batch_63 ?_
  refine lv_iconst (v := 1) hx hb dX8_batch_66 (by decide) ?_
  refine lv_iadd hx hb dX8_batch_67 ?_
  refine m_put hx hb hG hown hF hS (10) rfl rfl iG_8 tyX8_ok nmX8 3 (by decide) kw_59 (fun _ h9 => h9) rfl rfl rfl (Nat.le_of_ble_eq_true rfl) (wT X (q, A, nI (n + 1), wm, dy, tl, va_up (bfn n ad) n (some h), hs, pool (A 3) n ad g ++ [(h, dM kk (A 3) (nI kk) ma)]) false t) (by rw [nI_1]; rfl) dX8_batch_68 (fun H locs hS => ?_)
  refine lv_aload_n hx hb dX8_batch_71 rfl (lv_at hl 0 rfl) ?_
  refine m_get (v := .int (nI (n + 1))) hx hb hG hown hF hS (10) rfl rfl iG_8 3 (by decide) kw_59 (fun _ h9 => h9) rfl dX8_batch_72 ?_
  refine lv_iconst (v := 1) hx hb dX8_batch_75 (by decide) ?_
  refine lv_isub hx hb dX8_batch_76 ?_
  exact m_iret hx hb hr hlk hS ⟨h, nI_pred n, by rw [bfn_push, ← rec0_E hk, pool_push]; rfl⟩ (Nat.le_refl 1) (Nat.le_refl 8) dX8_batch_77
set_option maxHeartbeats 4000000 in
set_option maxRecDepth 100000 in
theorem c_Tinit (l : Launch) (X : Cx) (x0 x1 x2 : Nat × va_E) (T f : Nat) (hf : 1 ≤ f) : cV l yX6_init cX6_init 1 (rr f 1 10) X [.ref T] [x0, x1, x2, (T, .inr (7, [.null, .int 0, .int 0]))] (fun w => ∃ TA, w = [x0, x1, x2, (T, .inr (7, [.ref TA, .int 0, .int 0])), (TA, .inl (X.2.1, 10, .inl (fun _ => 0)))]) := by
  refine met_start (by decide) (Nat.le_of_ble_eq_true rfl) ?_
  intro p e s m below meth c ls fx hS hl
  obtain ⟨hx, hb, hr, hml, hown, hG, hlk, hF, hz, hnm⟩ := fx
  have hown : s.vm.findClass RX6 = some m.cls := hown
  have hl : lv_has ls 1 [(0, .ref T)] := hl
  refine lv_aload_n hx hb dX6_init_0 rfl (lv_at hl 0 rfl) ?_
  refine W.objInit hx hb hown (hG _ kw_44) (hG _ kw_35) (hG _ kw_36) rfl (by rw [hml]; exact hl.1) rfl dX6_init_1 (by show 1 ≤ f; omega) (by show _ ≤ 27 * f; first | omega | (simp; omega)) ?_
  refine W.eq (g2 := F0 m 4 ls []) rfl ?_
  refine lv_aload_n hx hb dX6_init_4 rfl (lv_at hl 0 rfl) ?_
  refine lv_bipush (v := 10) hx hb dX6_init_5 (by decide) ?_
  refine m_newa hx hb hG hF hz hS kw_55 10 rfl (by decide) (Nat.le_refl 1) (Nat.le_refl 10) rfl dX6_init_7 (fun TA H hS => ?_)
  have hS : mS X s [x0, x1, x2, (T, .inr (7, [.null, .int 0, .int 0])), (TA, .inl (X.2.1, 10, .inl (fun _ => 0)))] H [] := hS
  refine m_putF hx hb hG hown hF hS (3) rfl rfl iG_7 tyX6_ok nmX6 0 (by decide) kw_45 (fun _ h9 => h9) rfl hnm rfl rfl rfl (Nat.le_of_ble_eq_true rfl) ([x0, x1, x2, (T, .inr (7, [.ref TA, .int 0, .int 0])), (TA, .inl (X.2.1, 10, .inl (fun _ => 0)))]) rfl dX6_init_9 (fun H locs hS => ?_)
  exact m_vret hx hb hr hlk hS ⟨TA, rfl⟩ (Nat.le_refl 1) (Nat.le_refl 10) dX6_init_12
set_option maxHeartbeats 4000000 in
set_option maxRecDepth 100000 in
theorem c_Rminit (l : Launch) (X : Cx) (Ro f : Nat) (hf : 2 ≤ f) : cV l yX8_init cX8_init 1 (rr f 4 56) X [.ref Ro] [(Ro, .inr (8, [.null, .null, .null, .int 0, .int 0, .int 0, .int 0]))] (fun w => ∃ BA HA T TA, w = [(Ro, .inr (8, [.ref BA, .ref HA, .ref T, .int 0, .int 20, .int 0, .int 0])), (BA, .inl (X.2.2.1, 40, .inr (.inr (.inr (.inr (fun _ => none)))))), (HA, .inl (X.2.1, 3, .inl (fun _ => 0))), (T, .inr (7, [.ref TA, .int 0, .int 0])), (TA, .inl (X.2.1, 10, .inl (fun _ => 0)))]) := by
  refine met_start (by decide) (Nat.le_of_ble_eq_true rfl) ?_
  intro p e s m below meth c ls fx hS hl
  obtain ⟨hx, hb, hr, hml, hown, hG, hlk, hF, hz, hnm⟩ := fx
  have hown : s.vm.findClass RX8 = some m.cls := hown
  have hl : lv_has ls 1 [(0, .ref Ro)] := hl
  refine lv_aload_n hx hb dX8_init_0 rfl (lv_at hl 0 rfl) ?_
  refine W.objInit hx hb hown (hG _ kw_34) (hG _ kw_35) (hG _ kw_36) rfl (by rw [hml]; exact hl.1) rfl dX8_init_1 (by show 1 ≤ f; omega) (by show _ ≤ 27 * f; first | omega | (simp; omega)) ?_
  refine W.eq (g2 := F0 m 4 ls []) rfl ?_
  refine lv_aload_n hx hb dX8_init_4 rfl (lv_at hl 0 rfl) ?_
  refine lv_bipush (v := 40) hx hb dX8_init_5 (by decide) ?_
  refine m_newq hx hb hG hown hF hz hS kw_37 40 rfl (by decide) (by show 0 + 1 ≤ 4; decide) (by show 0 + 40 ≤ 56; decide) dX8_init_7 (fun BA H hS => ?_)
  have hS : mS X s [(Ro, .inr (8, [.null, .null, .null, .int 0, .int 0, .int 0, .int 0])), (BA, .inl (X.2.2.1, 40, .inr (.inr (.inr (.inr (fun _ => none))))))] H [] := hS
  refine m_putF hx hb hG hown hF hS (0) rfl rfl iG_8 tyX8_ok nmX8 0 (by decide) kw_56 (fun _ h9 => h9) rfl hnm rfl rfl rfl (Nat.le_of_ble_eq_true rfl) ([(Ro, .inr (8, [.ref BA, .null, .null, .int 0, .int 0, .int 0, .int 0])), (BA, .inl (X.2.2.1, 40, .inr (.inr (.inr (.inr (fun _ => none))))))]) rfl dX8_init_10 (fun H locs hS => ?_)
  refine lv_aload_n hx hb dX8_init_13 rfl (lv_at hl 0 rfl) ?_
  refine lv_iconst (v := 3) hx hb dX8_init_14 (by decide) ?_
  refine m_newa hx hb hG hF hz hS kw_55 3 rfl (by decide) (by show 0 + 1 + 1 ≤ 4; decide) (by show 0 + 40 + 3 ≤ 56; decide) rfl dX8_init_15 (fun HA H hS => ?_)
  have hS : mS X s [(Ro, .inr (8, [.ref BA, .null, .null, .int 0, .int 0, .int 0, .int 0])), (BA, .inl (X.2.2.1, 40, .inr (.inr (.inr (.inr (fun _ => none)))))), (HA, .inl (X.2.1, 3, .inl (fun _ => 0)))] H locs := hS
  refine m_putF hx hb hG hown hF hS (0) rfl rfl iG_8 tyX8_ok nmX8 1 (by decide) kw_57 (fun _ h9 => h9) rfl hnm rfl rfl rfl (Nat.le_of_ble_eq_true rfl) ([(Ro, .inr (8, [.ref BA, .ref HA, .null, .int 0, .int 0, .int 0, .int 0])), (BA, .inl (X.2.2.1, 40, .inr (.inr (.inr (.inr (fun _ => none)))))), (HA, .inl (X.2.1, 3, .inl (fun _ => 0)))]) rfl dX8_init_17 (fun H locs hS => ?_)
  refine lv_aload_n hx hb dX8_init_20 rfl (lv_at hl 0 rfl) ?_
  refine m_new hx hb hG hown hF hz hS (ci := 7) rfl iG_7 tyX6_ok kw_39 kw_40 kw_19 [.null, .int 0, .int 0] (fun j hj => by rcases (show j = 0 ∨ j = 1 ∨ j = 2 by omega) with rfl | rfl | rfl <;> rfl) (by show 0 + 1 + 1 + 1 ≤ 4; decide) (by show 0 + 40 + 3 + 3 ≤ 56; decide) dX8_init_21 (fun T H hS => ?_)
  have hS : mS X s [(Ro, .inr (8, [.ref BA, .ref HA, .null, .int 0, .int 0, .int 0, .int 0])), (BA, .inl (X.2.2.1, 40, .inr (.inr (.inr (.inr (fun _ => none)))))), (HA, .inl (X.2.1, 3, .inl (fun _ => 0))), (T, .inr (7, [.null, .int 0, .int 0]))] H locs := hS
  refine lv_dup hx hb dX8_init_24 rfl ?_
  refine m_cv (m_runI (n := 0) (rest := [.ref T, .ref Ro]) ⟨hx, hb, hml, hown, hG⟩ (c_Tinit l X _ _ _ T 1 (by decide)) kw_41 kw_42 kw_19 kw_43 rfl (by decide +kernel) (rr_ok2 (by omega) (by decide)) hF hz hS rfl hl.1 rfl (Nat.le_of_ble_eq_true rfl) dX8_init_25 ⟨by show 0 + 1 + 1 + 1 + 1 ≤ 4; decide, by show 0 + 40 + 3 + 3 + 10 ≤ 56; decide⟩) hS (fun w1 H locs hw1 hS => ?_)
  obtain ⟨TA, rfl⟩ := hw1
  refine m_putF hx hb hG hown hF hS (0) rfl rfl iG_8 tyX8_ok nmX8 2 (by decide) kw_58 (fun _ h9 => h9) rfl hnm rfl rfl rfl (Nat.le_of_ble_eq_true rfl) ([(Ro, .inr (8, [.ref BA, .ref HA, .ref T, .int 0, .int 0, .int 0, .int 0])), (BA, .inl (X.2.2.1, 40, .inr (.inr (.inr (.inr (fun _ => none)))))), (HA, .inl (X.2.1, 3, .inl (fun _ => 0))), (T, .inr (7, [.ref TA, .int 0, .int 0])), (TA, .inl (X.2.1, 10, .inl (fun _ => 0)))]) rfl dX8_init_28 (fun H locs hS => ?_)
  refine lv_aload_n hx hb dX8_init_31 rfl (lv_at hl 0 rfl) ?_
  refine lv_bipush (v := 20) hx hb dX8_init_32 (by decide) ?_
  refine m_put hx hb hG hown hF hS (0) rfl rfl iG_8 tyX8_ok nmX8 4 (by decide) kw_60 (fun _ h9 => h9) rfl rfl rfl (Nat.le_of_ble_eq_true rfl) ([(Ro, .inr (8, [.ref BA, .ref HA, .ref T, .int 0, .int 20, .int 0, .int 0])), (BA, .inl (X.2.2.1, 40, .inr (.inr (.inr (.inr (fun _ => none)))))), (HA, .inl (X.2.1, 3, .inl (fun _ => 0))), (T, .inr (7, [.ref TA, .int 0, .int 0])), (TA, .inl (X.2.1, 10, .inl (fun _ => 0)))]) rfl dX8_init_34 (fun H locs hS => ?_)
  exact m_vret hx hb hr hlk hS ⟨BA, HA, T, TA, rfl⟩ (by show 0 + 1 + 1 + 1 + 1 ≤ 4; decide) (by show 0 + 40 + 3 + 3 + 10 ≤ 56; decide) dX8_init_37
