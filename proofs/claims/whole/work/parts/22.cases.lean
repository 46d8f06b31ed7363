set_option maxHeartbeats 4000000 in
set_option maxRecDepth 100000 in
theorem lc_batch {p : Program} {l : Launch} {e : Env} {s : State} {m : MethodId} {below : List Frame} {meth : Method} {c : Code} {X : Cx} {b L : Nat} {xs : Nat → Int32} {A B : Nat → Nat} {n : Nat} {ad : Nat → Nat} {g g' : Nat → Rc} {wm dy tl : Int32} {hs : Nat → Int32} {t : Tr} {H : Heap} {locs : List Loc} {cells slots i0 : Nat} {Q : State → Prop} {ls : Array Slot} (lc : LC p s m c X b L xs) (hI : Inv n g g' dy t) (hi : i0 + 4 ≤ L) (hc : cells ≤ 1000) (hsl : slots ≤ 10000) (hS : mS X s (lW X A B n ad g g' wm dy tl hs t) H locs) (hl : lv_has ls 4 [(3, .int (nI i0)), (0, .ref b), (1, .ref (A 0)), (2, .ref (B 0))]) (kk : ∀ (n : Nat) (ad : Nat → Nat) (g g' : Nat → Rc) (wm dy tl : Int32) (hs : Nat → Int32) (t : Tr) (H : Heap) (locs : List Loc), Inv n g g' dy t → mS X s (lW X A B n ad g g' wm dy tl hs t) H locs → W p l e room_1 s m #[Value.ref b] below meth c H locs (cells + 1) (slots + 8) Q (F0 m 422 ls [])) : W p l e room_1 s m #[Value.ref b] below meth c H locs cells slots Q (F0 m 96 ls []) := by
  obtain ⟨hx, hb, hml, hown, hG, hF, hz, hX, hbl, hbA, hL⟩ := lc
  obtain ⟨v1, h1⟩ : ∃ v, xs (i0 + 1) = v := ⟨_, rfl⟩
  obtain ⟨v2, h2⟩ : ∃ v, xs (i0 + 2) = v := ⟨_, rfl⟩
  have hn := hI.1
  by_cases h0 : inB v1 0 6 = 0 ∨ inB v2 1 500 = 0
  · refine lv_aload_n hx hb dL_law_96 rfl (lv_at hl 2 rfl) ?_
    refine lv_aload_n hx hb dL_law_97 rfl (lv_at hl 1 rfl) ?_
    refine lv_iload_n hx hb dL_law_98 rfl (lv_at hl 0 rfl) ?_
    refine lv_iconst (v := 1) hx hb dL_law_99 (by decide) ?_
    refine lv_iadd hx hb dL_law_100 ?_
    refine m_sld hx hb hX hbl hbA hS (i0 + 1) (nI_1 i0) (by omega) hL h1 dL_law_101 ?_
    refine lv_aload_n hx hb dL_law_102 rfl (lv_at hl 1 rfl) ?_
    refine lv_iload_n hx hb dL_law_103 rfl (lv_at hl 0 rfl) ?_
    refine lv_iconst (v := 2) hx hb dL_law_104 (by decide) ?_
    refine lv_iadd hx hb dL_law_105 ?_
    refine m_sld hx hb hX hbl hbA hS (i0 + 2) (nI_add i0 2) (by omega) hL h2 dL_law_106 ?_
    refine m_ci (m_runV (n := 2) (rest := []) ⟨hx, hb, hml, hown, hG⟩ (c_batch_bad l X (mq X B n wm dy tl g' hs t) A n ad g wm dy tl hs t v1 v2 7 (by decide) h0) kw_78 kw_79 kw_80 kw_18 kw_81 (by decide +kernel) ⟨by decide, by decide⟩ hF hz hS (q0 := 10) rfl rfl rfl hl.1 rfl (Nat.le_of_ble_eq_true rfl) dL_law_107 ⟨by show cells + 1 ≤ 600000; omega, by show slots + 8 ≤ 7302250; omega⟩) hS (fun r1 w1 H locs hw1 hS => ?_)
    obtain ⟨e1, rfl⟩ := hw1
    rw [wL] at hS
    refine lv_aload_n hx hb dL_law_110 rfl (lv_at hl 3 rfl) ?_
    refine lv_aload_n hx hb dL_law_111 rfl (lv_at hl 1 rfl) ?_
    refine lv_iload_n hx hb dL_law_112 rfl (lv_at hl 0 rfl) ?_
    refine lv_iconst (v := 1) hx hb dL_law_113 (by decide) ?_
    refine lv_iadd hx hb dL_law_114 ?_
    refine m_sld hx hb hX hbl hbA hS (i0 + 1) (nI_1 i0) (by omega) hL h1 dL_law_115 ?_
    refine lv_aload_n hx hb dL_law_116 rfl (lv_at hl 1 rfl) ?_
    refine lv_iload_n hx hb dL_law_117 rfl (lv_at hl 0 rfl) ?_
    refine lv_iconst (v := 2) hx hb dL_law_118 (by decide) ?_
    refine lv_iadd hx hb dL_law_119 ?_
    refine m_sld hx hb hX hbl hbA hS (i0 + 2) (nI_add i0 2) (by omega) hL h2 dL_law_120 ?_
    refine m_ci (m_runV (n := 2) (rest := [.int r1]) ⟨hx, hb, hml, hown, hG⟩ (M_batch_bad l X B n wm dy tl g' hs (rs X A n ad g wm dy tl hs t) t v1 v2 1 (by decide) h0) kw_517 kw_518 kw_519 kw_20 kw_520 (by decide +kernel) ⟨by decide, by decide⟩ hF hz hS (q0 := 0) rfl rfl rfl hl.1 rfl (Nat.le_of_ble_eq_true rfl) dL_law_121 ⟨by show cells + 1 + 0 ≤ 600000; omega, by show slots + 8 + 0 ≤ 7302250; omega⟩) hS (fun r2 w2 H locs hw2 hS => ?_)
    obtain ⟨e2, rfl⟩ := hw2
    rw [← wL] at hS
    refine lv_icmp_eq (tgt := 422) hx hb dL_law_124 (by decide) (fun c_1 => ?_) (fun c_1 => absurd (by rw [e1, e2]) c_1)
    refine W.widen (k := cells + 1) (n := slots + 8) (by show cells + 1 + 0 ≤ cells + 1; omega) (by show slots + 8 + 0 ≤ slots + 8; omega) ?_
    exact kk _ _ _ _ _ _ _ _ _ _ _ (hI) hS
  · have ha : ¬ inB v1 0 6 = 0 := fun q => h0 (Or.inl q)
    have hb2 : ¬ inB v2 1 500 = 0 := fun q => h0 (Or.inr q)
    by_cases hn4 : n = 40
    · refine lv_aload_n hx hb dL_law_96 rfl (lv_at hl 2 rfl) ?_
      refine lv_aload_n hx hb dL_law_97 rfl (lv_at hl 1 rfl) ?_
      refine lv_iload_n hx hb dL_law_98 rfl (lv_at hl 0 rfl) ?_
      refine lv_iconst (v := 1) hx hb dL_law_99 (by decide) ?_
      refine lv_iadd hx hb dL_law_100 ?_
      refine m_sld hx hb hX hbl hbA hS (i0 + 1) (nI_1 i0) (by omega) hL h1 dL_law_101 ?_
      refine lv_aload_n hx hb dL_law_102 rfl (lv_at hl 1 rfl) ?_
      refine lv_iload_n hx hb dL_law_103 rfl (lv_at hl 0 rfl) ?_
      refine lv_iconst (v := 2) hx hb dL_law_104 (by decide) ?_
      refine lv_iadd hx hb dL_law_105 ?_
      refine m_sld hx hb hX hbl hbA hS (i0 + 2) (nI_add i0 2) (by omega) hL h2 dL_law_106 ?_
      refine m_ci (m_runV (n := 2) (rest := []) ⟨hx, hb, hml, hown, hG⟩ (c_batch_full l X (mq X B n wm dy tl g' hs t) A n ad g wm dy tl hs t v1 v2 7 (by decide) ha hb2 hn4) kw_78 kw_79 kw_80 kw_18 kw_81 (by decide +kernel) ⟨by decide, by decide⟩ hF hz hS (q0 := 10) rfl rfl rfl hl.1 rfl (Nat.le_of_ble_eq_true rfl) dL_law_107 ⟨by show cells + 1 ≤ 600000; omega, by show slots + 8 ≤ 7302250; omega⟩) hS (fun r1 w1 H locs hw1 hS => ?_)
      obtain ⟨e1, rfl⟩ := hw1
      rw [wL] at hS
      refine lv_aload_n hx hb dL_law_110 rfl (lv_at hl 3 rfl) ?_
      refine lv_aload_n hx hb dL_law_111 rfl (lv_at hl 1 rfl) ?_
      refine lv_iload_n hx hb dL_law_112 rfl (lv_at hl 0 rfl) ?_
      refine lv_iconst (v := 1) hx hb dL_law_113 (by decide) ?_
      refine lv_iadd hx hb dL_law_114 ?_
      refine m_sld hx hb hX hbl hbA hS (i0 + 1) (nI_1 i0) (by omega) hL h1 dL_law_115 ?_
      refine lv_aload_n hx hb dL_law_116 rfl (lv_at hl 1 rfl) ?_
      refine lv_iload_n hx hb dL_law_117 rfl (lv_at hl 0 rfl) ?_
      refine lv_iconst (v := 2) hx hb dL_law_118 (by decide) ?_
      refine lv_iadd hx hb dL_law_119 ?_
      refine m_sld hx hb hX hbl hbA hS (i0 + 2) (nI_add i0 2) (by omega) hL h2 dL_law_120 ?_
      refine m_ci (m_runV (n := 2) (rest := [.int r1]) ⟨hx, hb, hml, hown, hG⟩ (M_batch_full l X B n wm dy tl g' hs (rs X A n ad g wm dy tl hs t) t v1 v2 1 (by decide) ha hb2 hn4) kw_517 kw_518 kw_519 kw_20 kw_520 (by decide +kernel) ⟨by decide, by decide⟩ hF hz hS (q0 := 0) rfl rfl rfl hl.1 rfl (Nat.le_of_ble_eq_true rfl) dL_law_121 ⟨by show cells + 1 + 0 ≤ 600000; omega, by show slots + 8 + 0 ≤ 7302250; omega⟩) hS (fun r2 w2 H locs hw2 hS => ?_)
      obtain ⟨e2, rfl⟩ := hw2
      rw [← wL] at hS
      refine lv_icmp_eq (tgt := 422) hx hb dL_law_124 (by decide) (fun c_1 => ?_) (fun c_1 => absurd (by rw [e1, e2]) c_1)
      refine W.widen (k := cells + 1) (n := slots + 8) (by show cells + 1 + 0 ≤ cells + 1; omega) (by show slots + 8 + 0 ≤ slots + 8; omega) ?_
      exact kk _ _ _ _ _ _ _ _ _ _ _ (hI) hS
    · obtain ⟨kk0, hk, rfl⟩ := in_nI (a := 0) (M := 6) (by decide) ha
      have hn5 : n < 40 := by omega
      refine lv_aload_n hx hb dL_law_96 rfl (lv_at hl 2 rfl) ?_
      refine lv_aload_n hx hb dL_law_97 rfl (lv_at hl 1 rfl) ?_
      refine lv_iload_n hx hb dL_law_98 rfl (lv_at hl 0 rfl) ?_
      refine lv_iconst (v := 1) hx hb dL_law_99 (by decide) ?_
      refine lv_iadd hx hb dL_law_100 ?_
      refine m_sld hx hb hX hbl hbA hS (i0 + 1) (nI_1 i0) (by omega) hL h1 dL_law_101 ?_
      refine lv_aload_n hx hb dL_law_102 rfl (lv_at hl 1 rfl) ?_
      refine lv_iload_n hx hb dL_law_103 rfl (lv_at hl 0 rfl) ?_
      refine lv_iconst (v := 2) hx hb dL_law_104 (by decide) ?_
      refine lv_iadd hx hb dL_law_105 ?_
      refine m_sld hx hb hX hbl hbA hS (i0 + 2) (nI_add i0 2) (by omega) hL h2 dL_law_106 ?_
      refine m_ci (m_runV (n := 2) (rest := []) ⟨hx, hb, hml, hown, hG⟩ (c_batch l X (mq X B n wm dy tl g' hs t) A n ad g wm dy tl hs t kk0 v2 7 (by decide) (by omega) ha hb2 hn5) kw_78 kw_79 kw_80 kw_18 kw_81 (by decide +kernel) ⟨by decide, by decide⟩ hF hz hS (q0 := 10) rfl rfl rfl hl.1 rfl (Nat.le_of_ble_eq_true rfl) dL_law_107 ⟨by show cells + 1 ≤ 600000; omega, by show slots + 8 ≤ 7302250; omega⟩) hS (fun r1 w1 H locs hw1 hS => ?_)
      obtain ⟨h9, e1, rfl⟩ := hw1
      rw [wL] at hS
      refine lv_aload_n hx hb dL_law_110 rfl (lv_at hl 3 rfl) ?_
      refine lv_aload_n hx hb dL_law_111 rfl (lv_at hl 1 rfl) ?_
      refine lv_iload_n hx hb dL_law_112 rfl (lv_at hl 0 rfl) ?_
      refine lv_iconst (v := 1) hx hb dL_law_113 (by decide) ?_
      refine lv_iadd hx hb dL_law_114 ?_
      refine m_sld hx hb hX hbl hbA hS (i0 + 1) (nI_1 i0) (by omega) hL h1 dL_law_115 ?_
      refine lv_aload_n hx hb dL_law_116 rfl (lv_at hl 1 rfl) ?_
      refine lv_iload_n hx hb dL_law_117 rfl (lv_at hl 0 rfl) ?_
      refine lv_iconst (v := 2) hx hb dL_law_118 (by decide) ?_
      refine lv_iadd hx hb dL_law_119 ?_
      refine m_sld hx hb hX hbl hbA hS (i0 + 2) (nI_add i0 2) (by omega) hL h2 dL_law_120 ?_
      refine m_ci (m_runV (n := 2) (rest := [.int r1]) ⟨hx, hb, hml, hown, hG⟩ (M_batch l X B n wm dy tl g' hs (rs X A (n + 1) (va_up ad n h9) (va_up g n (rec0 (nI kk0) v2)) wm dy tl hs t) t (nI kk0) v2 1 (by decide) ha hb2 hn5) kw_517 kw_518 kw_519 kw_20 kw_520 (by decide +kernel) ⟨by decide, by decide⟩ hF hz hS (q0 := 0) rfl rfl rfl hl.1 rfl (Nat.le_of_ble_eq_true rfl) dL_law_121 ⟨by show cells + 1 + 0 ≤ 600000; omega, by show slots + 8 + 0 ≤ 7302250; omega⟩) hS (fun r2 w2 H locs hw2 hS => ?_)
      obtain ⟨e2, rfl⟩ := hw2
      rw [← wL] at hS
      refine lv_icmp_eq (tgt := 422) hx hb dL_law_124 (by decide) (fun c_1 => ?_) (fun c_1 => absurd (by rw [e1, e2]) c_1)
      refine W.widen (k := cells + 1) (n := slots + 8) (by show cells + 1 + 0 ≤ cells + 1; omega) (by show slots + 8 + 0 ≤ slots + 8; omega) ?_
      exact kk _ _ _ _ _ _ _ _ _ _ _ (hI.batch hn5 (by omega)) hS
set_option maxHeartbeats 4000000 in
set_option maxRecDepth 100000 in
theorem lc_ask {p : Program} {l : Launch} {e : Env} {s : State} {m : MethodId} {below : List Frame} {meth : Method} {c : Code} {X : Cx} {b L : Nat} {xs : Nat → Int32} {A B : Nat → Nat} {n : Nat} {ad : Nat → Nat} {g g' : Nat → Rc} {wm dy tl : Int32} {hs : Nat → Int32} {t : Tr} {H : Heap} {locs : List Loc} {cells slots i0 : Nat} {Q : State → Prop} {ls : Array Slot} (lc : LC p s m c X b L xs) (hI : Inv n g g' dy t) (hi : i0 + 4 ≤ L) (hc : cells ≤ 1000) (hsl : slots ≤ 10000) (hS : mS X s (lW X A B n ad g g' wm dy tl hs t) H locs) (hl : lv_has ls 4 [(3, .int (nI i0)), (0, .ref b), (1, .ref (A 0)), (2, .ref (B 0))]) (kk : ∀ (n : Nat) (ad : Nat → Nat) (g g' : Nat → Rc) (wm dy tl : Int32) (hs : Nat → Int32) (t : Tr) (H : Heap) (locs : List Loc), Inv n g g' dy t → mS X s (lW X A B n ad g g' wm dy tl hs t) H locs → W p l e room_1 s m #[Value.ref b] below meth c H locs (cells + 1) (slots + 8) Q (F0 m 422 ls [])) : W p l e room_1 s m #[Value.ref b] below meth c H locs cells slots Q (F0 m 129 ls []) := by
  obtain ⟨hx, hb, hml, hown, hG, hF, hz, hX, hbl, hbA, hL⟩ := lc
  obtain ⟨v1, h1⟩ : ∃ v, xs (i0 + 1) = v := ⟨_, rfl⟩
  obtain ⟨v2, h2⟩ : ∃ v, xs (i0 + 2) = v := ⟨_, rfl⟩
  obtain ⟨v3, h3⟩ : ∃ v, xs (i0 + 3) = v := ⟨_, rfl⟩
  have hn := hI.1
  rcases ix2 v1 (n := n) (by omega) with hb0 | ⟨j, hj, rfl⟩
  · refine lv_aload_n hx hb dL_law_129 rfl (lv_at hl 2 rfl) ?_
    refine lv_aload_n hx hb dL_law_130 rfl (lv_at hl 1 rfl) ?_
    refine lv_iload_n hx hb dL_law_131 rfl (lv_at hl 0 rfl) ?_
    refine lv_iconst (v := 1) hx hb dL_law_132 (by decide) ?_
    refine lv_iadd hx hb dL_law_133 ?_
    refine m_sld hx hb hX hbl hbA hS (i0 + 1) (nI_1 i0) (by omega) hL h1 dL_law_134 ?_
    refine lv_aload_n hx hb dL_law_135 rfl (lv_at hl 1 rfl) ?_
    refine lv_iload_n hx hb dL_law_136 rfl (lv_at hl 0 rfl) ?_
    refine lv_iconst (v := 2) hx hb dL_law_137 (by decide) ?_
    refine lv_iadd hx hb dL_law_138 ?_
    refine m_sld hx hb hX hbl hbA hS (i0 + 2) (nI_add i0 2) (by omega) hL h2 dL_law_139 ?_
    refine lv_aload_n hx hb dL_law_140 rfl (lv_at hl 1 rfl) ?_
    refine lv_iload_n hx hb dL_law_141 rfl (lv_at hl 0 rfl) ?_
    refine lv_iconst (v := 3) hx hb dL_law_142 (by decide) ?_
    refine lv_iadd hx hb dL_law_143 ?_
    refine m_sld hx hb hX hbl hbA hS (i0 + 3) (nI_add i0 3) (by omega) hL h3 dL_law_144 ?_
    refine m_ci (m_runV (n := 3) (rest := []) ⟨hx, hb, hml, hown, hG⟩ (c_ask_nob l X (mq X B n wm dy tl g' hs t) A n ad g wm dy tl hs t v1 v2 v3 7 (by decide) hn hb0) kw_226 kw_227 kw_228 kw_18 kw_229 (by decide +kernel) ⟨by decide, by decide⟩ hF hz hS (q0 := 10) rfl rfl rfl hl.1 rfl (Nat.le_of_ble_eq_true rfl) dL_law_145 ⟨by show cells + 0 ≤ 600000; omega, by show slots + 0 ≤ 7302250; omega⟩) hS (fun r1 w1 H locs hw1 hS => ?_)
    obtain ⟨e1, rfl⟩ := hw1
    rw [wL] at hS
    refine lv_aload_n hx hb dL_law_148 rfl (lv_at hl 3 rfl) ?_
    refine lv_aload_n hx hb dL_law_149 rfl (lv_at hl 1 rfl) ?_
    refine lv_iload_n hx hb dL_law_150 rfl (lv_at hl 0 rfl) ?_
    refine lv_iconst (v := 1) hx hb dL_law_151 (by decide) ?_
    refine lv_iadd hx hb dL_law_152 ?_
    refine m_sld hx hb hX hbl hbA hS (i0 + 1) (nI_1 i0) (by omega) hL h1 dL_law_153 ?_
    refine lv_aload_n hx hb dL_law_154 rfl (lv_at hl 1 rfl) ?_
    refine lv_iload_n hx hb dL_law_155 rfl (lv_at hl 0 rfl) ?_
    refine lv_iconst (v := 2) hx hb dL_law_156 (by decide) ?_
    refine lv_iadd hx hb dL_law_157 ?_
    refine m_sld hx hb hX hbl hbA hS (i0 + 2) (nI_add i0 2) (by omega) hL h2 dL_law_158 ?_
    refine lv_aload_n hx hb dL_law_159 rfl (lv_at hl 1 rfl) ?_
    refine lv_iload_n hx hb dL_law_160 rfl (lv_at hl 0 rfl) ?_
    refine lv_iconst (v := 3) hx hb dL_law_161 (by decide) ?_
    refine lv_iadd hx hb dL_law_162 ?_
    refine m_sld hx hb hX hbl hbA hS (i0 + 3) (nI_add i0 3) (by omega) hL h3 dL_law_163 ?_
    refine m_ci (m_runV (n := 3) (rest := [.int r1]) ⟨hx, hb, hml, hown, hG⟩ (M_ask_nob l X B n wm dy tl g' hs (rs X A n ad g wm dy tl hs t) t v1 v2 v3 6 (by decide) hn hb0) kw_524 kw_525 kw_526 kw_20 kw_527 (by decide +kernel) ⟨by decide, by decide⟩ hF hz hS (q0 := 0) rfl rfl rfl hl.1 rfl (Nat.le_of_ble_eq_true rfl) dL_law_164 ⟨by show cells + 0 + 0 ≤ 600000; omega, by show slots + 0 + 0 ≤ 7302250; omega⟩) hS (fun r2 w2 H locs hw2 hS => ?_)
    obtain ⟨e2, rfl⟩ := hw2
    rw [← wL] at hS
    refine lv_icmp_eq (tgt := 422) hx hb dL_law_167 (by decide) (fun c_1 => ?_) (fun c_1 => absurd (by rw [e1, e2]) c_1)
    refine W.widen (k := cells + 1) (n := slots + 8) (by show cells + 0 + 0 ≤ cells + 1; omega) (by show slots + 0 + 0 ≤ slots + 8; omega) ?_
    exact kk _ _ _ _ _ _ _ _ _ _ _ (hI) hS
  · have e := hI.2.1 j hj
    by_cases hq : qOk v2 v3 = 0
    · refine lv_aload_n hx hb dL_law_129 rfl (lv_at hl 2 rfl) ?_
      refine lv_aload_n hx hb dL_law_130 rfl (lv_at hl 1 rfl) ?_
      refine lv_iload_n hx hb dL_law_131 rfl (lv_at hl 0 rfl) ?_
      refine lv_iconst (v := 1) hx hb dL_law_132 (by decide) ?_
      refine lv_iadd hx hb dL_law_133 ?_
      refine m_sld hx hb hX hbl hbA hS (i0 + 1) (nI_1 i0) (by omega) hL h1 dL_law_134 ?_
      refine lv_aload_n hx hb dL_law_135 rfl (lv_at hl 1 rfl) ?_
      refine lv_iload_n hx hb dL_law_136 rfl (lv_at hl 0 rfl) ?_
      refine lv_iconst (v := 2) hx hb dL_law_137 (by decide) ?_
      refine lv_iadd hx hb dL_law_138 ?_
      refine m_sld hx hb hX hbl hbA hS (i0 + 2) (nI_add i0 2) (by omega) hL h2 dL_law_139 ?_
      refine lv_aload_n hx hb dL_law_140 rfl (lv_at hl 1 rfl) ?_
      refine lv_iload_n hx hb dL_law_141 rfl (lv_at hl 0 rfl) ?_
      refine lv_iconst (v := 3) hx hb dL_law_142 (by decide) ?_
      refine lv_iadd hx hb dL_law_143 ?_
      refine m_sld hx hb hX hbl hbA hS (i0 + 3) (nI_add i0 3) (by omega) hL h3 dL_law_144 ?_
      refine m_ci (m_runV (n := 3) (rest := []) ⟨hx, hb, hml, hown, hG⟩ (c_ask_bad l X (mq X B n wm dy tl g' hs t) A n ad g wm dy tl hs t j 7 hn hI.2.2.1 hj v2 v3 (by decide) hq) kw_226 kw_227 kw_228 kw_18 kw_229 (by decide +kernel) ⟨by decide, by decide⟩ hF hz hS (q0 := 10) rfl rfl rfl hl.1 rfl (Nat.le_of_ble_eq_true rfl) dL_law_145 ⟨by show cells + 0 ≤ 600000; omega, by show slots + 0 ≤ 7302250; omega⟩) hS (fun r1 w1 H locs hw1 hS => ?_)
      obtain ⟨e1, rfl⟩ := hw1
      rw [wL] at hS
      refine lv_aload_n hx hb dL_law_148 rfl (lv_at hl 3 rfl) ?_
      refine lv_aload_n hx hb dL_law_149 rfl (lv_at hl 1 rfl) ?_
      refine lv_iload_n hx hb dL_law_150 rfl (lv_at hl 0 rfl) ?_
      refine lv_iconst (v := 1) hx hb dL_law_151 (by decide) ?_
      refine lv_iadd hx hb dL_law_152 ?_
      refine m_sld hx hb hX hbl hbA hS (i0 + 1) (nI_1 i0) (by omega) hL h1 dL_law_153 ?_
      refine lv_aload_n hx hb dL_law_154 rfl (lv_at hl 1 rfl) ?_
      refine lv_iload_n hx hb dL_law_155 rfl (lv_at hl 0 rfl) ?_
      refine lv_iconst (v := 2) hx hb dL_law_156 (by decide) ?_
      refine lv_iadd hx hb dL_law_157 ?_
      refine m_sld hx hb hX hbl hbA hS (i0 + 2) (nI_add i0 2) (by omega) hL h2 dL_law_158 ?_
      refine lv_aload_n hx hb dL_law_159 rfl (lv_at hl 1 rfl) ?_
      refine lv_iload_n hx hb dL_law_160 rfl (lv_at hl 0 rfl) ?_
      refine lv_iconst (v := 3) hx hb dL_law_161 (by decide) ?_
      refine lv_iadd hx hb dL_law_162 ?_
      refine m_sld hx hb hX hbl hbA hS (i0 + 3) (nI_add i0 3) (by omega) hL h3 dL_law_163 ?_
      refine m_ci (m_runV (n := 3) (rest := [.int r1]) ⟨hx, hb, hml, hown, hG⟩ (M_ask_bad l X B n wm dy tl g' hs (rs X A n ad g wm dy tl hs t) t j 6 hn hI.kq' hI.k0' hj v2 v3 (by decide) hq) kw_524 kw_525 kw_526 kw_20 kw_527 (by decide +kernel) ⟨by decide, by decide⟩ hF hz hS (q0 := 0) rfl rfl rfl hl.1 rfl (Nat.le_of_ble_eq_true rfl) dL_law_164 ⟨by show cells + 0 + 0 ≤ 600000; omega, by show slots + 0 + 0 ≤ 7302250; omega⟩) hS (fun r2 w2 H locs hw2 hS => ?_)
      obtain ⟨e2, rfl⟩ := hw2
      rw [← wL] at hS
      refine lv_icmp_eq (tgt := 422) hx hb dL_law_167 (by decide) (fun c_1 => ?_) (fun c_1 => absurd (by rw [e1, e2]) c_1)
      refine W.widen (k := cells + 1) (n := slots + 8) (by show cells + 0 + 0 ≤ cells + 1; omega) (by show slots + 0 + 0 ≤ slots + 8; omega) ?_
      exact kk _ _ _ _ _ _ _ _ _ _ _ (hI) hS
    · obtain ⟨q, hq6, rfl⟩ := q_nI hq
      refine lv_aload_n hx hb dL_law_129 rfl (lv_at hl 2 rfl) ?_
      refine lv_aload_n hx hb dL_law_130 rfl (lv_at hl 1 rfl) ?_
      refine lv_iload_n hx hb dL_law_131 rfl (lv_at hl 0 rfl) ?_
      refine lv_iconst (v := 1) hx hb dL_law_132 (by decide) ?_
      refine lv_iadd hx hb dL_law_133 ?_
      refine m_sld hx hb hX hbl hbA hS (i0 + 1) (nI_1 i0) (by omega) hL h1 dL_law_134 ?_
      refine lv_aload_n hx hb dL_law_135 rfl (lv_at hl 1 rfl) ?_
      refine lv_iload_n hx hb dL_law_136 rfl (lv_at hl 0 rfl) ?_
      refine lv_iconst (v := 2) hx hb dL_law_137 (by decide) ?_
      refine lv_iadd hx hb dL_law_138 ?_
      refine m_sld hx hb hX hbl hbA hS (i0 + 2) (nI_add i0 2) (by omega) hL h2 dL_law_139 ?_
      refine lv_aload_n hx hb dL_law_140 rfl (lv_at hl 1 rfl) ?_
      refine lv_iload_n hx hb dL_law_141 rfl (lv_at hl 0 rfl) ?_
      refine lv_iconst (v := 3) hx hb dL_law_142 (by decide) ?_
      refine lv_iadd hx hb dL_law_143 ?_
      refine m_sld hx hb hX hbl hbA hS (i0 + 3) (nI_add i0 3) (by omega) hL h3 dL_law_144 ?_
      refine m_ci (m_runV (n := 3) (rest := []) ⟨hx, hb, hml, hown, hG⟩ (c_ask l X (mq X B n wm dy tl g' hs t) A n ad g wm dy tl hs t j 7 hn hI.2.2.1 hj q v3 hq6 (by decide) hq) kw_226 kw_227 kw_228 kw_18 kw_229 (by decide +kernel) ⟨by decide, by decide⟩ hF hz hS (q0 := 10) rfl rfl rfl hl.1 rfl (Nat.le_of_ble_eq_true rfl) dL_law_145 ⟨by show cells + 0 ≤ 600000; omega, by show slots + 0 ≤ 7302250; omega⟩) hS (fun r1 w1 H locs hw1 hS => ?_)
      obtain ⟨e1, rfl⟩ := hw1
      rw [wL] at hS
      refine lv_aload_n hx hb dL_law_148 rfl (lv_at hl 3 rfl) ?_
      refine lv_aload_n hx hb dL_law_149 rfl (lv_at hl 1 rfl) ?_
      refine lv_iload_n hx hb dL_law_150 rfl (lv_at hl 0 rfl) ?_
      refine lv_iconst (v := 1) hx hb dL_law_151 (by decide) ?_
      refine lv_iadd hx hb dL_law_152 ?_
      refine m_sld hx hb hX hbl hbA hS (i0 + 1) (nI_1 i0) (by omega) hL h1 dL_law_153 ?_
      refine lv_aload_n hx hb dL_law_154 rfl (lv_at hl 1 rfl) ?_
      refine lv_iload_n hx hb dL_law_155 rfl (lv_at hl 0 rfl) ?_
      refine lv_iconst (v := 2) hx hb dL_law_156 (by decide) ?_
      refine lv_iadd hx hb dL_law_157 ?_
      refine m_sld hx hb hX hbl hbA hS (i0 + 2) (nI_add i0 2) (by omega) hL h2 dL_law_158 ?_
      refine lv_aload_n hx hb dL_law_159 rfl (lv_at hl 1 rfl) ?_
      refine lv_iload_n hx hb dL_law_160 rfl (lv_at hl 0 rfl) ?_
      refine lv_iconst (v := 3) hx hb dL_law_161 (by decide) ?_
      refine lv_iadd hx hb dL_law_162 ?_
      refine m_sld hx hb hX hbl hbA hS (i0 + 3) (nI_add i0 3) (by omega) hL h3 dL_law_163 ?_
      refine m_ci (m_runV (n := 3) (rest := [.int r1]) ⟨hx, hb, hml, hown, hG⟩ (M_ask l X B n wm dy tl g' hs (rs X A n ad g wm dy tl hs (te true (askT (g j) q) (0, t.2))) t j 6 hn hI.kq' hI.k0' hj q v3 hq6 (by decide) hq) kw_524 kw_525 kw_526 kw_20 kw_527 (by decide +kernel) ⟨by decide, by decide⟩ hF hz hS (q0 := 0) rfl rfl rfl hl.1 rfl (Nat.le_of_ble_eq_true rfl) dL_law_164 ⟨by show cells + 0 + 0 ≤ 600000; omega, by show slots + 0 + 0 ≤ 7302250; omega⟩) hS (fun r2 w2 H locs hw2 hS => ?_)
      obtain ⟨e2, rfl⟩ := hw2
      rw [← askT_eq e q] at hS
      rw [← wL] at hS
      refine lv_icmp_eq (tgt := 422) hx hb dL_law_167 (by decide) (fun c_1 => ?_) (fun c_1 => absurd (by rw [e1, e2]; exact askV_eq e q v3) c_1)
      refine W.widen (k := cells + 1) (n := slots + 8) (by show cells + 0 + 0 ≤ cells + 1; omega) (by show slots + 0 + 0 ≤ slots + 8; omega) ?_
      exact kk _ _ _ _ _ _ _ _ _ _ _ (hI.tr (by show (tw _ _).1 ≤ 10; rw [tw_len]; have := askT_len (hI.2.2.1 j hj) q; show 0 + _ ≤ 10; omega)) hS
set_option maxHeartbeats 4000000 in
set_option maxRecDepth 100000 in
theorem lc_trace {p : Program} {l : Launch} {e : Env} {s : State} {m : MethodId} {below : List Frame} {meth : Method} {c : Code} {X : Cx} {b L : Nat} {xs : Nat → Int32} {A B : Nat → Nat} {n : Nat} {ad : Nat → Nat} {g g' : Nat → Rc} {wm dy tl : Int32} {hs : Nat → Int32} {t : Tr} {H : Heap} {locs : List Loc} {cells slots i0 : Nat} {Q : State → Prop} {ls : Array Slot} (lc : LC p s m c X b L xs) (hI : Inv n g g' dy t) (hi : i0 + 4 ≤ L) (hc : cells ≤ 1000) (hsl : slots ≤ 10000) (hS : mS X s (lW X A B n ad g g' wm dy tl hs t) H locs) (hl : lv_has ls 4 [(3, .int (nI i0)), (0, .ref b), (1, .ref (A 0)), (2, .ref (B 0))]) (kk : ∀ (n : Nat) (ad : Nat → Nat) (g g' : Nat → Rc) (wm dy tl : Int32) (hs : Nat → Int32) (t : Tr) (H : Heap) (locs : List Loc), Inv n g g' dy t → mS X s (lW X A B n ad g g' wm dy tl hs t) H locs → W p l e room_1 s m #[Value.ref b] below meth c H locs (cells + 1) (slots + 8) Q (F0 m 422 ls [])) : W p l e room_1 s m #[Value.ref b] below meth c H locs cells slots Q (F0 m 172 ls []) := by
  obtain ⟨hx, hb, hml, hown, hG, hF, hz, hX, hbl, hbA, hL⟩ := lc
  obtain ⟨v1, h1⟩ : ∃ v, xs (i0 + 1) = v := ⟨_, rfl⟩
  have hn := hI.1
  have ht := hI.2.2.2.2.2.2.2
  rcases ix2 v1 (n := t.1) (by omega) with hb0 | ⟨j, hj, rfl⟩
  · refine lv_aload_n hx hb dL_law_172 rfl (lv_at hl 2 rfl) ?_
    refine lv_aload_n hx hb dL_law_173 rfl (lv_at hl 1 rfl) ?_
    refine lv_iload_n hx hb dL_law_174 rfl (lv_at hl 0 rfl) ?_
    refine lv_iconst (v := 1) hx hb dL_law_175 (by decide) ?_
    refine lv_iadd hx hb dL_law_176 ?_
    refine m_sld hx hb hX hbl hbA hS (i0 + 1) (nI_1 i0) (by omega) hL h1 dL_law_177 ?_
    refine m_ci (m_runV (n := 1) (rest := []) ⟨hx, hb, hml, hown, hG⟩ (c_trace_no l X (mq X B n wm dy tl g' hs t) A n ad g wm dy tl hs t v1 7 hb0 (by decide)) kw_377 kw_378 kw_379 kw_18 kw_380 (by decide +kernel) ⟨by decide, by decide⟩ hF hz hS (q0 := 10) rfl rfl rfl hl.1 rfl (Nat.le_of_ble_eq_true rfl) dL_law_178 ⟨by show cells + 0 ≤ 600000; omega, by show slots + 0 ≤ 7302250; omega⟩) hS (fun r1 w1 H locs hw1 hS => ?_)
    obtain ⟨e1, rfl⟩ := hw1
    rw [wL] at hS
    refine lv_aload_n hx hb dL_law_181 rfl (lv_at hl 3 rfl) ?_
    refine lv_aload_n hx hb dL_law_182 rfl (lv_at hl 1 rfl) ?_
    refine lv_iload_n hx hb dL_law_183 rfl (lv_at hl 0 rfl) ?_
    refine lv_iconst (v := 1) hx hb dL_law_184 (by decide) ?_
    refine lv_iadd hx hb dL_law_185 ?_
    refine m_sld hx hb hX hbl hbA hS (i0 + 1) (nI_1 i0) (by omega) hL h1 dL_law_186 ?_
    refine m_ci (m_runV (n := 1) (rest := [.int r1]) ⟨hx, hb, hml, hown, hG⟩ (M_trace_no l X B n wm dy tl g' hs (rs X A n ad g wm dy tl hs t) t v1 6 hb0 (by decide) ht) kw_570 kw_571 kw_572 kw_20 kw_573 (by decide +kernel) ⟨by decide, by decide⟩ hF hz hS (q0 := 0) rfl rfl rfl hl.1 rfl (Nat.le_of_ble_eq_true rfl) dL_law_187 ⟨by show cells + 0 + 0 ≤ 600000; omega, by show slots + 0 + 0 ≤ 7302250; omega⟩) hS (fun r2 w2 H locs hw2 hS => ?_)
    obtain ⟨e2, rfl⟩ := hw2
    rw [← wL] at hS
    refine lv_icmp_eq (tgt := 422) hx hb dL_law_190 (by decide) (fun c_1 => ?_) (fun c_1 => absurd (by rw [e1, e2]) c_1)
    refine W.widen (k := cells + 1) (n := slots + 8) (by show cells + 0 + 0 ≤ cells + 1; omega) (by show slots + 0 + 0 ≤ slots + 8; omega) ?_
    exact kk _ _ _ _ _ _ _ _ _ _ _ (hI) hS
  · refine lv_aload_n hx hb dL_law_172 rfl (lv_at hl 2 rfl) ?_
    refine lv_aload_n hx hb dL_law_173 rfl (lv_at hl 1 rfl) ?_
    refine lv_iload_n hx hb dL_law_174 rfl (lv_at hl 0 rfl) ?_
    refine lv_iconst (v := 1) hx hb dL_law_175 (by decide) ?_
    refine lv_iadd hx hb dL_law_176 ?_
    refine m_sld hx hb hX hbl hbA hS (i0 + 1) (nI_1 i0) (by omega) hL h1 dL_law_177 ?_
    refine m_ci (m_runV (n := 1) (rest := []) ⟨hx, hb, hml, hown, hG⟩ (c_trace l X (mq X B n wm dy tl g' hs t) A n ad g wm dy tl hs t j 7 ht hj (by decide)) kw_377 kw_378 kw_379 kw_18 kw_380 (by decide +kernel) ⟨by decide, by decide⟩ hF hz hS (q0 := 10) rfl rfl rfl hl.1 rfl (Nat.le_of_ble_eq_true rfl) dL_law_178 ⟨by show cells + 0 ≤ 600000; omega, by show slots + 0 ≤ 7302250; omega⟩) hS (fun r1 w1 H locs hw1 hS => ?_)
    obtain ⟨e1, rfl⟩ := hw1
    rw [wL] at hS
    refine lv_aload_n hx hb dL_law_181 rfl (lv_at hl 3 rfl) ?_
    refine lv_aload_n hx hb dL_law_182 rfl (lv_at hl 1 rfl) ?_
    refine lv_iload_n hx hb dL_law_183 rfl (lv_at hl 0 rfl) ?_
    refine lv_iconst (v := 1) hx hb dL_law_184 (by decide) ?_
    refine lv_iadd hx hb dL_law_185 ?_
    refine m_sld hx hb hX hbl hbA hS (i0 + 1) (nI_1 i0) (by omega) hL h1 dL_law_186 ?_
    refine m_ci (m_runV (n := 1) (rest := [.int r1]) ⟨hx, hb, hml, hown, hG⟩ (M_trace l X B n wm dy tl g' hs (rs X A n ad g wm dy tl hs t) t j 6 hj (by decide) ht) kw_570 kw_571 kw_572 kw_20 kw_573 (by decide +kernel) ⟨by decide, by decide⟩ hF hz hS (q0 := 0) rfl rfl rfl hl.1 rfl (Nat.le_of_ble_eq_true rfl) dL_law_187 ⟨by show cells + 0 + 0 ≤ 600000; omega, by show slots + 0 + 0 ≤ 7302250; omega⟩) hS (fun r2 w2 H locs hw2 hS => ?_)
    obtain ⟨e2, rfl⟩ := hw2
    rw [← wL] at hS
    refine lv_icmp_eq (tgt := 422) hx hb dL_law_190 (by decide) (fun c_1 => ?_) (fun c_1 => absurd (by rw [e1, e2]) c_1)
    refine W.widen (k := cells + 1) (n := slots + 8) (by show cells + 0 + 0 ≤ cells + 1; omega) (by show slots + 0 + 0 ≤ slots + 8; omega) ?_
    exact kk _ _ _ _ _ _ _ _ _ _ _ (hI) hS
set_option maxHeartbeats 4000000 in
set_option maxRecDepth 100000 in
theorem lc_room {p : Program} {l : Launch} {e : Env} {s : State} {m : MethodId} {below : List Frame} {meth : Method} {c : Code} {X : Cx} {b L : Nat} {xs : Nat → Int32} {A B : Nat → Nat} {n : Nat} {ad : Nat → Nat} {g g' : Nat → Rc} {wm dy tl : Int32} {hs : Nat → Int32} {t : Tr} {H : Heap} {locs : List Loc} {cells slots i0 : Nat} {Q : State → Prop} {ls : Array Slot} (lc : LC p s m c X b L xs) (hI : Inv n g g' dy t) (hi : i0 + 4 ≤ L) (hc : cells ≤ 1000) (hsl : slots ≤ 10000) (hS : mS X s (lW X A B n ad g g' wm dy tl hs t) H locs) (hl : lv_has ls 4 [(3, .int (nI i0)), (0, .ref b), (1, .ref (A 0)), (2, .ref (B 0))]) (kk : ∀ (n : Nat) (ad : Nat → Nat) (g g' : Nat → Rc) (wm dy tl : Int32) (hs : Nat → Int32) (t : Tr) (H : Heap) (locs : List Loc), Inv n g g' dy t → mS X s (lW X A B n ad g g' wm dy tl hs t) H locs → W p l e room_1 s m #[Value.ref b] below meth c H locs (cells + 1) (slots + 8) Q (F0 m 422 ls [])) : W p l e room_1 s m #[Value.ref b] below meth c H locs cells slots Q (F0 m 195 ls []) := by
  obtain ⟨hx, hb, hml, hown, hG, hF, hz, hX, hbl, hbA, hL⟩ := lc
  obtain ⟨v1, h1⟩ : ∃ v, xs (i0 + 1) = v := ⟨_, rfl⟩
  have hn := hI.1
  by_cases h0 : inB v1 0 60 = 0
  · refine lv_aload_n hx hb dL_law_195 rfl (lv_at hl 2 rfl) ?_
    refine lv_aload_n hx hb dL_law_196 rfl (lv_at hl 1 rfl) ?_
    refine lv_iload_n hx hb dL_law_197 rfl (lv_at hl 0 rfl) ?_
    refine lv_iconst (v := 1) hx hb dL_law_198 (by decide) ?_
    refine lv_iadd hx hb dL_law_199 ?_
    refine m_sld hx hb hX hbl hbA hS (i0 + 1) (nI_1 i0) (by omega) hL h1 dL_law_200 ?_
    refine m_ci (m_runV (n := 1) (rest := []) ⟨hx, hb, hml, hown, hG⟩ (c_room_bad l X (mq X B n wm dy tl g' hs t) A n ad g wm dy tl hs t v1 7 (by decide) h0) kw_385 kw_386 kw_387 kw_18 kw_388 (by decide +kernel) ⟨by decide, by decide⟩ hF hz hS (q0 := 10) rfl rfl rfl hl.1 rfl (Nat.le_of_ble_eq_true rfl) dL_law_201 ⟨by show cells + 0 ≤ 600000; omega, by show slots + 0 ≤ 7302250; omega⟩) hS (fun r1 w1 H locs hw1 hS => ?_)
    obtain ⟨e1, rfl⟩ := hw1
    rw [wL] at hS
    refine lv_aload_n hx hb dL_law_204 rfl (lv_at hl 3 rfl) ?_
    refine lv_aload_n hx hb dL_law_205 rfl (lv_at hl 1 rfl) ?_
    refine lv_iload_n hx hb dL_law_206 rfl (lv_at hl 0 rfl) ?_
    refine lv_iconst (v := 1) hx hb dL_law_207 (by decide) ?_
    refine lv_iadd hx hb dL_law_208 ?_
    refine m_sld hx hb hX hbl hbA hS (i0 + 1) (nI_1 i0) (by omega) hL h1 dL_law_209 ?_
    refine m_ci (m_runV (n := 1) (rest := [.int r1]) ⟨hx, hb, hml, hown, hG⟩ (M_room_bad l X B n wm dy tl g' hs (rs X A n ad g wm dy tl hs t) t v1 6 (by decide) h0) kw_574 kw_575 kw_576 kw_20 kw_577 (by decide +kernel) ⟨by decide, by decide⟩ hF hz hS (q0 := 0) rfl rfl rfl hl.1 rfl (Nat.le_of_ble_eq_true rfl) dL_law_210 ⟨by show cells + 0 + 0 ≤ 600000; omega, by show slots + 0 + 0 ≤ 7302250; omega⟩) hS (fun r2 w2 H locs hw2 hS => ?_)
    obtain ⟨e2, rfl⟩ := hw2
    rw [← wL] at hS
    refine lv_icmp_eq (tgt := 422) hx hb dL_law_213 (by decide) (fun c_1 => ?_) (fun c_1 => absurd (by rw [e1, e2]) c_1)
    refine W.widen (k := cells + 1) (n := slots + 8) (by show cells + 0 + 0 ≤ cells + 1; omega) (by show slots + 0 + 0 ≤ slots + 8; omega) ?_
    exact kk _ _ _ _ _ _ _ _ _ _ _ (hI) hS
  · refine lv_aload_n hx hb dL_law_195 rfl (lv_at hl 2 rfl) ?_
    refine lv_aload_n hx hb dL_law_196 rfl (lv_at hl 1 rfl) ?_
    refine lv_iload_n hx hb dL_law_197 rfl (lv_at hl 0 rfl) ?_
    refine lv_iconst (v := 1) hx hb dL_law_198 (by decide) ?_
    refine lv_iadd hx hb dL_law_199 ?_
    refine m_sld hx hb hX hbl hbA hS (i0 + 1) (nI_1 i0) (by omega) hL h1 dL_law_200 ?_
    refine m_ci (m_runV (n := 1) (rest := []) ⟨hx, hb, hml, hown, hG⟩ (c_room l X (mq X B n wm dy tl g' hs t) A n ad g wm dy tl hs t v1 7 (by decide) h0) kw_385 kw_386 kw_387 kw_18 kw_388 (by decide +kernel) ⟨by decide, by decide⟩ hF hz hS (q0 := 10) rfl rfl rfl hl.1 rfl (Nat.le_of_ble_eq_true rfl) dL_law_201 ⟨by show cells + 0 ≤ 600000; omega, by show slots + 0 ≤ 7302250; omega⟩) hS (fun r1 w1 H locs hw1 hS => ?_)
    obtain ⟨e1, rfl⟩ := hw1
    rw [wL] at hS
    refine lv_aload_n hx hb dL_law_204 rfl (lv_at hl 3 rfl) ?_
    refine lv_aload_n hx hb dL_law_205 rfl (lv_at hl 1 rfl) ?_
    refine lv_iload_n hx hb dL_law_206 rfl (lv_at hl 0 rfl) ?_
    refine lv_iconst (v := 1) hx hb dL_law_207 (by decide) ?_
    refine lv_iadd hx hb dL_law_208 ?_
    refine m_sld hx hb hX hbl hbA hS (i0 + 1) (nI_1 i0) (by omega) hL h1 dL_law_209 ?_
    refine m_ci (m_runV (n := 1) (rest := [.int r1]) ⟨hx, hb, hml, hown, hG⟩ (M_room l X B n wm dy tl g' hs (rs X A n ad g v1 dy tl hs t) t v1 6 (by decide) h0) kw_574 kw_575 kw_576 kw_20 kw_577 (by decide +kernel) ⟨by decide, by decide⟩ hF hz hS (q0 := 0) rfl rfl rfl hl.1 rfl (Nat.le_of_ble_eq_true rfl) dL_law_210 ⟨by show cells + 0 + 0 ≤ 600000; omega, by show slots + 0 + 0 ≤ 7302250; omega⟩) hS (fun r2 w2 H locs hw2 hS => ?_)
    obtain ⟨e2, rfl⟩ := hw2
    rw [← wL] at hS
    refine lv_icmp_eq (tgt := 422) hx hb dL_law_213 (by decide) (fun c_1 => ?_) (fun c_1 => absurd (by rw [e1, e2]) c_1)
    refine W.widen (k := cells + 1) (n := slots + 8) (by show cells + 0 + 0 ≤ cells + 1; omega) (by show slots + 0 + 0 ≤ slots + 8; omega) ?_
    exact kk _ _ _ _ _ _ _ _ _ _ _ (hI) hS
set_option maxHeartbeats 4000000 in
set_option maxRecDepth 100000 in
theorem lc_heat {p : Program} {l : Launch} {e : Env} {s : State} {m : MethodId} {below : List Frame} {meth : Method} {c : Code} {X : Cx} {b L : Nat} {xs : Nat → Int32} {A B : Nat → Nat} {n : Nat} {ad : Nat → Nat} {g g' : Nat → Rc} {wm dy tl : Int32} {hs : Nat → Int32} {t : Tr} {H : Heap} {locs : List Loc} {cells slots i0 : Nat} {Q : State → Prop} {ls : Array Slot} (lc : LC p s m c X b L xs) (hI : Inv n g g' dy t) (hi : i0 + 4 ≤ L) (hc : cells ≤ 1000) (hsl : slots ≤ 10000) (hS : mS X s (lW X A B n ad g g' wm dy tl hs t) H locs) (hl : lv_has ls 4 [(3, .int (nI i0)), (0, .ref b), (1, .ref (A 0)), (2, .ref (B 0))]) (kk : ∀ (n : Nat) (ad : Nat → Nat) (g g' : Nat → Rc) (wm dy tl : Int32) (hs : Nat → Int32) (t : Tr) (H : Heap) (locs : List Loc), Inv n g g' dy t → mS X s (lW X A B n ad g g' wm dy tl hs t) H locs → W p l e room_1 s m #[Value.ref b] below meth c H locs (cells + 1) (slots + 8) Q (F0 m 422 ls [])) : W p l e room_1 s m #[Value.ref b] below meth c H locs cells slots Q (F0 m 218 ls []) := by
  obtain ⟨hx, hb, hml, hown, hG, hF, hz, hX, hbl, hbA, hL⟩ := lc
  obtain ⟨v1, h1⟩ : ∃ v, xs (i0 + 1) = v := ⟨_, rfl⟩
  obtain ⟨v2, h2⟩ : ∃ v, xs (i0 + 2) = v := ⟨_, rfl⟩
  have hn := hI.1
  rcases ix2 v1 (n := 3) (by decide) with hb0 | ⟨o, ho, rfl⟩
  · refine lv_aload_n hx hb dL_law_218 rfl (lv_at hl 2 rfl) ?_
    refine lv_aload_n hx hb dL_law_219 rfl (lv_at hl 1 rfl) ?_
    refine lv_iload_n hx hb dL_law_220 rfl (lv_at hl 0 rfl) ?_
    refine lv_iconst (v := 1) hx hb dL_law_221 (by decide) ?_
    refine lv_iadd hx hb dL_law_222 ?_
    refine m_sld hx hb hX hbl hbA hS (i0 + 1) (nI_1 i0) (by omega) hL h1 dL_law_223 ?_
    refine lv_aload_n hx hb dL_law_224 rfl (lv_at hl 1 rfl) ?_
    refine lv_iload_n hx hb dL_law_225 rfl (lv_at hl 0 rfl) ?_
    refine lv_iconst (v := 2) hx hb dL_law_226 (by decide) ?_
    refine lv_iadd hx hb dL_law_227 ?_
    refine m_sld hx hb hX hbl hbA hS (i0 + 2) (nI_add i0 2) (by omega) hL h2 dL_law_228 ?_
    refine m_ci (m_runV (n := 2) (rest := []) ⟨hx, hb, hml, hown, hG⟩ (c_heat_bad l X (mq X B n wm dy tl g' hs t) A n ad g wm dy tl hs t v1 v2 7 (by decide) (Or.inl (ovB_no hb0))) kw_389 kw_390 kw_391 kw_18 kw_392 (by decide +kernel) ⟨by decide, by decide⟩ hF hz hS (q0 := 10) rfl rfl rfl hl.1 rfl (Nat.le_of_ble_eq_true rfl) dL_law_229 ⟨by show cells + 0 ≤ 600000; omega, by show slots + 0 ≤ 7302250; omega⟩) hS (fun r1 w1 H locs hw1 hS => ?_)
    obtain ⟨e1, rfl⟩ := hw1
    rw [wL] at hS
    refine lv_aload_n hx hb dL_law_232 rfl (lv_at hl 3 rfl) ?_
    refine lv_aload_n hx hb dL_law_233 rfl (lv_at hl 1 rfl) ?_
    refine lv_iload_n hx hb dL_law_234 rfl (lv_at hl 0 rfl) ?_
    refine lv_iconst (v := 1) hx hb dL_law_235 (by decide) ?_
    refine lv_iadd hx hb dL_law_236 ?_
    refine m_sld hx hb hX hbl hbA hS (i0 + 1) (nI_1 i0) (by omega) hL h1 dL_law_237 ?_
    refine lv_aload_n hx hb dL_law_238 rfl (lv_at hl 1 rfl) ?_
    refine lv_iload_n hx hb dL_law_239 rfl (lv_at hl 0 rfl) ?_
    refine lv_iconst (v := 2) hx hb dL_law_240 (by decide) ?_
    refine lv_iadd hx hb dL_law_241 ?_
    refine m_sld hx hb hX hbl hbA hS (i0 + 2) (nI_add i0 2) (by omega) hL h2 dL_law_242 ?_
    refine m_ci (m_runV (n := 2) (rest := [.int r1]) ⟨hx, hb, hml, hown, hG⟩ (M_heat_bad l X B n wm dy tl g' hs (rs X A n ad g wm dy tl hs t) t v1 v2 6 (by decide) (Or.inl (ov2_no hb0))) kw_578 kw_579 kw_580 kw_20 kw_581 (by decide +kernel) ⟨by decide, by decide⟩ hF hz hS (q0 := 0) rfl rfl rfl hl.1 rfl (Nat.le_of_ble_eq_true rfl) dL_law_243 ⟨by show cells + 0 + 0 ≤ 600000; omega, by show slots + 0 + 0 ≤ 7302250; omega⟩) hS (fun r2 w2 H locs hw2 hS => ?_)
    obtain ⟨e2, rfl⟩ := hw2
    rw [← wL] at hS
    refine lv_icmp_eq (tgt := 422) hx hb dL_law_246 (by decide) (fun c_1 => ?_) (fun c_1 => absurd (by rw [e1, e2]) c_1)
    refine W.widen (k := cells + 1) (n := slots + 8) (by show cells + 0 + 0 ≤ cells + 1; omega) (by show slots + 0 + 0 ≤ slots + 8; omega) ?_
    exact kk _ _ _ _ _ _ _ _ _ _ _ (hI) hS
  · by_cases h0 : inB v2 0 400 = 0
    · refine lv_aload_n hx hb dL_law_218 rfl (lv_at hl 2 rfl) ?_
      refine lv_aload_n hx hb dL_law_219 rfl (lv_at hl 1 rfl) ?_
      refine lv_iload_n hx hb dL_law_220 rfl (lv_at hl 0 rfl) ?_
      refine lv_iconst (v := 1) hx hb dL_law_221 (by decide) ?_
      refine lv_iadd hx hb dL_law_222 ?_
      refine m_sld hx hb hX hbl hbA hS (i0 + 1) (nI_1 i0) (by omega) hL h1 dL_law_223 ?_
      refine lv_aload_n hx hb dL_law_224 rfl (lv_at hl 1 rfl) ?_
      refine lv_iload_n hx hb dL_law_225 rfl (lv_at hl 0 rfl) ?_
      refine lv_iconst (v := 2) hx hb dL_law_226 (by decide) ?_
      refine lv_iadd hx hb dL_law_227 ?_
      refine m_sld hx hb hX hbl hbA hS (i0 + 2) (nI_add i0 2) (by omega) hL h2 dL_law_228 ?_
      refine m_ci (m_runV (n := 2) (rest := []) ⟨hx, hb, hml, hown, hG⟩ (c_heat_bad l X (mq X B n wm dy tl g' hs t) A n ad g wm dy tl hs t (nI o) v2 7 (by decide) (Or.inr h0)) kw_389 kw_390 kw_391 kw_18 kw_392 (by decide +kernel) ⟨by decide, by decide⟩ hF hz hS (q0 := 10) rfl rfl rfl hl.1 rfl (Nat.le_of_ble_eq_true rfl) dL_law_229 ⟨by show cells + 0 ≤ 600000; omega, by show slots + 0 ≤ 7302250; omega⟩) hS (fun r1 w1 H locs hw1 hS => ?_)
      obtain ⟨e1, rfl⟩ := hw1
      rw [wL] at hS
      refine lv_aload_n hx hb dL_law_232 rfl (lv_at hl 3 rfl) ?_
      refine lv_aload_n hx hb dL_law_233 rfl (lv_at hl 1 rfl) ?_
      refine lv_iload_n hx hb dL_law_234 rfl (lv_at hl 0 rfl) ?_
      refine lv_iconst (v := 1) hx hb dL_law_235 (by decide) ?_
      refine lv_iadd hx hb dL_law_236 ?_
      refine m_sld hx hb hX hbl hbA hS (i0 + 1) (nI_1 i0) (by omega) hL h1 dL_law_237 ?_
      refine lv_aload_n hx hb dL_law_238 rfl (lv_at hl 1 rfl) ?_
      refine lv_iload_n hx hb dL_law_239 rfl (lv_at hl 0 rfl) ?_
      refine lv_iconst (v := 2) hx hb dL_law_240 (by decide) ?_
      refine lv_iadd hx hb dL_law_241 ?_
      refine m_sld hx hb hX hbl hbA hS (i0 + 2) (nI_add i0 2) (by omega) hL h2 dL_law_242 ?_
      refine m_ci (m_runV (n := 2) (rest := [.int r1]) ⟨hx, hb, hml, hown, hG⟩ (M_heat_bad l X B n wm dy tl g' hs (rs X A n ad g wm dy tl hs t) t (nI o) v2 6 (by decide) (Or.inr h0)) kw_578 kw_579 kw_580 kw_20 kw_581 (by decide +kernel) ⟨by decide, by decide⟩ hF hz hS (q0 := 0) rfl rfl rfl hl.1 rfl (Nat.le_of_ble_eq_true rfl) dL_law_243 ⟨by show cells + 0 + 0 ≤ 600000; omega, by show slots + 0 + 0 ≤ 7302250; omega⟩) hS (fun r2 w2 H locs hw2 hS => ?_)
      obtain ⟨e2, rfl⟩ := hw2
      rw [← wL] at hS
      refine lv_icmp_eq (tgt := 422) hx hb dL_law_246 (by decide) (fun c_1 => ?_) (fun c_1 => absurd (by rw [e1, e2]) c_1)
      refine W.widen (k := cells + 1) (n := slots + 8) (by show cells + 0 + 0 ≤ cells + 1; omega) (by show slots + 0 + 0 ≤ slots + 8; omega) ?_
      exact kk _ _ _ _ _ _ _ _ _ _ _ (hI) hS
    · refine lv_aload_n hx hb dL_law_218 rfl (lv_at hl 2 rfl) ?_
      refine lv_aload_n hx hb dL_law_219 rfl (lv_at hl 1 rfl) ?_
      refine lv_iload_n hx hb dL_law_220 rfl (lv_at hl 0 rfl) ?_
      refine lv_iconst (v := 1) hx hb dL_law_221 (by decide) ?_
      refine lv_iadd hx hb dL_law_222 ?_
      refine m_sld hx hb hX hbl hbA hS (i0 + 1) (nI_1 i0) (by omega) hL h1 dL_law_223 ?_
      refine lv_aload_n hx hb dL_law_224 rfl (lv_at hl 1 rfl) ?_
      refine lv_iload_n hx hb dL_law_225 rfl (lv_at hl 0 rfl) ?_
      refine lv_iconst (v := 2) hx hb dL_law_226 (by decide) ?_
      refine lv_iadd hx hb dL_law_227 ?_
      refine m_sld hx hb hX hbl hbA hS (i0 + 2) (nI_add i0 2) (by omega) hL h2 dL_law_228 ?_
      refine m_ci (m_runV (n := 2) (rest := []) ⟨hx, hb, hml, hown, hG⟩ (c_heat l X (mq X B n wm dy tl g' hs t) A n ad g wm dy tl hs t o v2 7 (by decide) ho h0) kw_389 kw_390 kw_391 kw_18 kw_392 (by decide +kernel) ⟨by decide, by decide⟩ hF hz hS (q0 := 10) rfl rfl rfl hl.1 rfl (Nat.le_of_ble_eq_true rfl) dL_law_229 ⟨by show cells + 0 ≤ 600000; omega, by show slots + 0 ≤ 7302250; omega⟩) hS (fun r1 w1 H locs hw1 hS => ?_)
      obtain ⟨e1, rfl⟩ := hw1
      rw [wL] at hS
      refine lv_aload_n hx hb dL_law_232 rfl (lv_at hl 3 rfl) ?_
      refine lv_aload_n hx hb dL_law_233 rfl (lv_at hl 1 rfl) ?_
      refine lv_iload_n hx hb dL_law_234 rfl (lv_at hl 0 rfl) ?_
      refine lv_iconst (v := 1) hx hb dL_law_235 (by decide) ?_
      refine lv_iadd hx hb dL_law_236 ?_
      refine m_sld hx hb hX hbl hbA hS (i0 + 1) (nI_1 i0) (by omega) hL h1 dL_law_237 ?_
      refine lv_aload_n hx hb dL_law_238 rfl (lv_at hl 1 rfl) ?_
      refine lv_iload_n hx hb dL_law_239 rfl (lv_at hl 0 rfl) ?_
      refine lv_iconst (v := 2) hx hb dL_law_240 (by decide) ?_
      refine lv_iadd hx hb dL_law_241 ?_
      refine m_sld hx hb hX hbl hbA hS (i0 + 2) (nI_add i0 2) (by omega) hL h2 dL_law_242 ?_
      refine m_ci (m_runV (n := 2) (rest := [.int r1]) ⟨hx, hb, hml, hown, hG⟩ (M_heat l X B n wm dy tl g' hs (rs X A n ad g wm dy tl (upd hs o v2) t) t o v2 6 (by decide) ho h0) kw_578 kw_579 kw_580 kw_20 kw_581 (by decide +kernel) ⟨by decide, by decide⟩ hF hz hS (q0 := 0) rfl rfl rfl hl.1 rfl (Nat.le_of_ble_eq_true rfl) dL_law_243 ⟨by show cells + 0 + 0 ≤ 600000; omega, by show slots + 0 + 0 ≤ 7302250; omega⟩) hS (fun r2 w2 H locs hw2 hS => ?_)
      obtain ⟨e2, rfl⟩ := hw2
      rw [← wL] at hS
      refine lv_icmp_eq (tgt := 422) hx hb dL_law_246 (by decide) (fun c_1 => ?_) (fun c_1 => absurd (by rw [e1, e2]) c_1)
      refine W.widen (k := cells + 1) (n := slots + 8) (by show cells + 0 + 0 ≤ cells + 1; omega) (by show slots + 0 + 0 ≤ slots + 8; omega) ?_
      exact kk _ _ _ _ _ _ _ _ _ _ _ (hI) hS
set_option maxHeartbeats 4000000 in
set_option maxRecDepth 100000 in
theorem lc_minutes {p : Program} {l : Launch} {e : Env} {s : State} {m : MethodId} {below : List Frame} {meth : Method} {c : Code} {X : Cx} {b L : Nat} {xs : Nat → Int32} {A B : Nat → Nat} {n : Nat} {ad : Nat → Nat} {g g' : Nat → Rc} {wm dy tl : Int32} {hs : Nat → Int32} {t : Tr} {H : Heap} {locs : List Loc} {cells slots i0 : Nat} {Q : State → Prop} {ls : Array Slot} (lc : LC p s m c X b L xs) (hI : Inv n g g' dy t) (hi : i0 + 4 ≤ L) (hc : cells ≤ 1000) (hsl : slots ≤ 10000) (hS : mS X s (lW X A B n ad g g' wm dy tl hs t) H locs) (hl : lv_has ls 4 [(3, .int (nI i0)), (0, .ref b), (1, .ref (A 0)), (2, .ref (B 0))]) (kk : ∀ (n : Nat) (ad : Nat → Nat) (g g' : Nat → Rc) (wm dy tl : Int32) (hs : Nat → Int32) (t : Tr) (H : Heap) (locs : List Loc), Inv n g g' dy t → mS X s (lW X A B n ad g g' wm dy tl hs t) H locs → W p l e room_1 s m #[Value.ref b] below meth c H locs (cells + 1) (slots + 8) Q (F0 m 422 ls [])) : W p l e room_1 s m #[Value.ref b] below meth c H locs cells slots Q (F0 m 251 ls []) := by
  obtain ⟨hx, hb, hml, hown, hG, hF, hz, hX, hbl, hbA, hL⟩ := lc
  obtain ⟨v1, h1⟩ : ∃ v, xs (i0 + 1) = v := ⟨_, rfl⟩
  have hn := hI.1
  by_cases h0 : inB v1 1 200 = 0
  · refine lv_aload_n hx hb dL_law_251 rfl (lv_at hl 2 rfl) ?_
    refine lv_aload_n hx hb dL_law_252 rfl (lv_at hl 1 rfl) ?_
    refine lv_iload_n hx hb dL_law_253 rfl (lv_at hl 0 rfl) ?_
    refine lv_iconst (v := 1) hx hb dL_law_254 (by decide) ?_
    refine lv_iadd hx hb dL_law_255 ?_
    refine m_sld hx hb hX hbl hbA hS (i0 + 1) (nI_1 i0) (by omega) hL h1 dL_law_256 ?_
    refine m_ci (m_runV (n := 1) (rest := []) ⟨hx, hb, hml, hown, hG⟩ (c_minutes_bad l X (mq X B n wm dy tl g' hs t) A n ad g wm dy tl hs t v1 7 (by decide) h0) kw_397 kw_398 kw_399 kw_18 kw_400 (by decide +kernel) ⟨by decide, by decide⟩ hF hz hS (q0 := 10) rfl rfl rfl hl.1 rfl (Nat.le_of_ble_eq_true rfl) dL_law_257 ⟨by show cells + 0 ≤ 600000; omega, by show slots + 0 ≤ 7302250; omega⟩) hS (fun r1 w1 H locs hw1 hS => ?_)
    obtain ⟨e1, rfl⟩ := hw1
    rw [wL] at hS
    refine lv_aload_n hx hb dL_law_260 rfl (lv_at hl 3 rfl) ?_
    refine lv_aload_n hx hb dL_law_261 rfl (lv_at hl 1 rfl) ?_
    refine lv_iload_n hx hb dL_law_262 rfl (lv_at hl 0 rfl) ?_
    refine lv_iconst (v := 1) hx hb dL_law_263 (by decide) ?_
    refine lv_iadd hx hb dL_law_264 ?_
    refine m_sld hx hb hX hbl hbA hS (i0 + 1) (nI_1 i0) (by omega) hL h1 dL_law_265 ?_
    refine m_ci (m_runV (n := 1) (rest := [.int r1]) ⟨hx, hb, hml, hown, hG⟩ (M_minutes_bad l X B n wm dy tl g' hs (rs X A n ad g wm dy tl hs t) t v1 6 (by decide) h0) kw_582 kw_583 kw_584 kw_20 kw_585 (by decide +kernel) ⟨by decide, by decide⟩ hF hz hS (q0 := 0) rfl rfl rfl hl.1 rfl (Nat.le_of_ble_eq_true rfl) dL_law_266 ⟨by show cells + 0 + 0 ≤ 600000; omega, by show slots + 0 + 0 ≤ 7302250; omega⟩) hS (fun r2 w2 H locs hw2 hS => ?_)
    obtain ⟨e2, rfl⟩ := hw2
    rw [← wL] at hS
    refine lv_icmp_eq (tgt := 422) hx hb dL_law_269 (by decide) (fun c_1 => ?_) (fun c_1 => absurd (by rw [e1, e2]) c_1)
    refine W.widen (k := cells + 1) (n := slots + 8) (by show cells + 0 + 0 ≤ cells + 1; omega) (by show slots + 0 + 0 ≤ slots + 8; omega) ?_
    exact kk _ _ _ _ _ _ _ _ _ _ _ (hI) hS
  · obtain ⟨N, hN, rfl⟩ := in_nI (a := 1) (M := 200) (by decide) h0
    refine lv_aload_n hx hb dL_law_251 rfl (lv_at hl 2 rfl) ?_
    refine lv_aload_n hx hb dL_law_252 rfl (lv_at hl 1 rfl) ?_
    refine lv_iload_n hx hb dL_law_253 rfl (lv_at hl 0 rfl) ?_
    refine lv_iconst (v := 1) hx hb dL_law_254 (by decide) ?_
    refine lv_iadd hx hb dL_law_255 ?_
    refine m_sld hx hb hX hbl hbA hS (i0 + 1) (nI_1 i0) (by omega) hL h1 dL_law_256 ?_
    refine m_ci (m_runV (n := 1) (rest := []) ⟨hx, hb, hml, hown, hG⟩ (c_minutes l X (mq X B n wm dy tl g' hs t) A n ad g wm dy tl hs t N 7 (by decide) (by omega) h0 hn hI.2.2.1 hI.2.2.2.2.1) kw_397 kw_398 kw_399 kw_18 kw_400 (by decide +kernel) ⟨by decide, by decide⟩ hF hz hS (q0 := 10) rfl rfl rfl hl.1 rfl (Nat.le_of_ble_eq_true rfl) dL_law_257 ⟨by show cells + 0 ≤ 600000; omega, by show slots + 0 ≤ 7302250; omega⟩) hS (fun r1 w1 H locs hw1 hS => ?_)
    obtain ⟨e1, rfl⟩ := hw1
    rw [minG] at hS
    rw [wL] at hS
    refine lv_aload_n hx hb dL_law_260 rfl (lv_at hl 3 rfl) ?_
    refine lv_aload_n hx hb dL_law_261 rfl (lv_at hl 1 rfl) ?_
    refine lv_iload_n hx hb dL_law_262 rfl (lv_at hl 0 rfl) ?_
    refine lv_iconst (v := 1) hx hb dL_law_263 (by decide) ?_
    refine lv_iadd hx hb dL_law_264 ?_
    refine m_sld hx hb hX hbl hbA hS (i0 + 1) (nI_1 i0) (by omega) hL h1 dL_law_265 ?_
    refine m_ci (m_runV (n := 1) (rest := [.int r1]) ⟨hx, hb, hml, hown, hG⟩ (M_minutes l X B n wm dy tl g' hs (rs X A n ad (itG wm hs n g N) wm dy tl hs t) t N 6 (by decide) (by omega) h0 hn hI.kq' hI.k0' hI.ov') kw_582 kw_583 kw_584 kw_20 kw_585 (by decide +kernel) ⟨by decide, by decide⟩ hF hz hS (q0 := 0) rfl rfl rfl hl.1 rfl (Nat.le_of_ble_eq_true rfl) dL_law_266 ⟨by show cells + 0 + 0 ≤ 600000; omega, by show slots + 0 + 0 ≤ 7302250; omega⟩) hS (fun r2 w2 H locs hw2 hS => ?_)
    obtain ⟨e2, rfl⟩ := hw2
    rw [← wL] at hS
    refine lv_icmp_eq (tgt := 422) hx hb dL_law_269 (by decide) (fun c_1 => ?_) (fun c_1 => absurd (by rw [e1, e2]; exact min_ans.trans (lostS_eqv hI.2.1 N)) c_1)
    refine W.widen (k := cells + 1) (n := slots + 8) (by show cells + 0 + 0 ≤ cells + 1; omega) (by show slots + 0 + 0 ≤ slots + 8; omega) ?_
    exact kk _ _ _ _ _ _ _ _ _ _ _ (hI.minute) hS
set_option maxHeartbeats 4000000 in
set_option maxRecDepth 100000 in
theorem lc_bake {p : Program} {l : Launch} {e : Env} {s : State} {m : MethodId} {below : List Frame} {meth : Method} {c : Code} {X : Cx} {b L : Nat} {xs : Nat → Int32} {A B : Nat → Nat} {n : Nat} {ad : Nat → Nat} {g g' : Nat → Rc} {wm dy tl : Int32} {hs : Nat → Int32} {t : Tr} {H : Heap} {locs : List Loc} {cells slots i0 : Nat} {Q : State → Prop} {ls : Array Slot} (lc : LC p s m c X b L xs) (hI : Inv n g g' dy t) (hi : i0 + 4 ≤ L) (hc : cells ≤ 1000) (hsl : slots ≤ 10000) (hS : mS X s (lW X A B n ad g g' wm dy tl hs t) H locs) (hl : lv_has ls 4 [(3, .int (nI i0)), (0, .ref b), (1, .ref (A 0)), (2, .ref (B 0))]) (kk : ∀ (n : Nat) (ad : Nat → Nat) (g g' : Nat → Rc) (wm dy tl : Int32) (hs : Nat → Int32) (t : Tr) (H : Heap) (locs : List Loc), Inv n g g' dy t → mS X s (lW X A B n ad g g' wm dy tl hs t) H locs → W p l e room_1 s m #[Value.ref b] below meth c H locs (cells + 1) (slots + 8) Q (F0 m 422 ls [])) : W p l e room_1 s m #[Value.ref b] below meth c H locs cells slots Q (F0 m 274 ls []) := by
  obtain ⟨hx, hb, hml, hown, hG, hF, hz, hX, hbl, hbA, hL⟩ := lc
  obtain ⟨v1, h1⟩ : ∃ v, xs (i0 + 1) = v := ⟨_, rfl⟩
  obtain ⟨v2, h2⟩ : ∃ v, xs (i0 + 2) = v := ⟨_, rfl⟩
  have hn := hI.1
  rcases ix2 v1 (n := n) (by omega) with hb0 | ⟨j, hj, rfl⟩
  · refine lv_aload_n hx hb dL_law_274 rfl (lv_at hl 2 rfl) ?_
    refine lv_aload_n hx hb dL_law_275 rfl (lv_at hl 1 rfl) ?_
    refine lv_iload_n hx hb dL_law_276 rfl (lv_at hl 0 rfl) ?_
    refine lv_iconst (v := 1) hx hb dL_law_277 (by decide) ?_
    refine lv_iadd hx hb dL_law_278 ?_
    refine m_sld hx hb hX hbl hbA hS (i0 + 1) (nI_1 i0) (by omega) hL h1 dL_law_279 ?_
    refine lv_aload_n hx hb dL_law_280 rfl (lv_at hl 1 rfl) ?_
    refine lv_iload_n hx hb dL_law_281 rfl (lv_at hl 0 rfl) ?_
    refine lv_iconst (v := 2) hx hb dL_law_282 (by decide) ?_
    refine lv_iadd hx hb dL_law_283 ?_
    refine m_sld hx hb hX hbl hbA hS (i0 + 2) (nI_add i0 2) (by omega) hL h2 dL_law_284 ?_
    refine m_ci (m_runV (n := 2) (rest := []) ⟨hx, hb, hml, hown, hG⟩ (c_bake_nob l X (mq X B n wm dy tl g' hs t) A n ad g wm dy tl hs t v1 v2 7 (by decide) hn hb0) kw_434 kw_435 kw_436 kw_18 kw_437 (by decide +kernel) ⟨by decide, by decide⟩ hF hz hS (q0 := 10) rfl rfl rfl hl.1 rfl (Nat.le_of_ble_eq_true rfl) dL_law_285 ⟨by show cells + 0 ≤ 600000; omega, by show slots + 0 ≤ 7302250; omega⟩) hS (fun r1 w1 H locs hw1 hS => ?_)
    obtain ⟨e1, rfl⟩ := hw1
    rw [wL] at hS
    refine lv_aload_n hx hb dL_law_288 rfl (lv_at hl 3 rfl) ?_
    refine lv_aload_n hx hb dL_law_289 rfl (lv_at hl 1 rfl) ?_
    refine lv_iload_n hx hb dL_law_290 rfl (lv_at hl 0 rfl) ?_
    refine lv_iconst (v := 1) hx hb dL_law_291 (by decide) ?_
    refine lv_iadd hx hb dL_law_292 ?_
    refine m_sld hx hb hX hbl hbA hS (i0 + 1) (nI_1 i0) (by omega) hL h1 dL_law_293 ?_
    refine lv_aload_n hx hb dL_law_294 rfl (lv_at hl 1 rfl) ?_
    refine lv_iload_n hx hb dL_law_295 rfl (lv_at hl 0 rfl) ?_
    refine lv_iconst (v := 2) hx hb dL_law_296 (by decide) ?_
    refine lv_iadd hx hb dL_law_297 ?_
    refine m_sld hx hb hX hbl hbA hS (i0 + 2) (nI_add i0 2) (by omega) hL h2 dL_law_298 ?_
    refine m_ci (m_runV (n := 2) (rest := [.int r1]) ⟨hx, hb, hml, hown, hG⟩ (M_bake_nob l X B n wm dy tl g' hs (rs X A n ad g wm dy tl hs t) t v1 v2 6 (by decide) hn hb0) kw_590 kw_591 kw_592 kw_20 kw_593 (by decide +kernel) ⟨by decide, by decide⟩ hF hz hS (q0 := 0) rfl rfl rfl hl.1 rfl (Nat.le_of_ble_eq_true rfl) dL_law_299 ⟨by show cells + 0 + 0 ≤ 600000; omega, by show slots + 0 + 0 ≤ 7302250; omega⟩) hS (fun r2 w2 H locs hw2 hS => ?_)
    obtain ⟨e2, rfl⟩ := hw2
    rw [← wL] at hS
    refine lv_icmp_eq (tgt := 422) hx hb dL_law_302 (by decide) (fun c_1 => ?_) (fun c_1 => absurd (by rw [e1, e2]) c_1)
    refine W.widen (k := cells + 1) (n := slots + 8) (by show cells + 0 + 0 ≤ cells + 1; omega) (by show slots + 0 + 0 ≤ slots + 8; omega) ?_
    exact kk _ _ _ _ _ _ _ _ _ _ _ (hI) hS
  · have e := hI.2.1 j hj
    rcases ix2 v2 (n := 3) (by decide) with ho0 | ⟨o, ho, rfl⟩
    · refine lv_aload_n hx hb dL_law_274 rfl (lv_at hl 2 rfl) ?_
      refine lv_aload_n hx hb dL_law_275 rfl (lv_at hl 1 rfl) ?_
      refine lv_iload_n hx hb dL_law_276 rfl (lv_at hl 0 rfl) ?_
      refine lv_iconst (v := 1) hx hb dL_law_277 (by decide) ?_
      refine lv_iadd hx hb dL_law_278 ?_
      refine m_sld hx hb hX hbl hbA hS (i0 + 1) (nI_1 i0) (by omega) hL h1 dL_law_279 ?_
      refine lv_aload_n hx hb dL_law_280 rfl (lv_at hl 1 rfl) ?_
      refine lv_iload_n hx hb dL_law_281 rfl (lv_at hl 0 rfl) ?_
      refine lv_iconst (v := 2) hx hb dL_law_282 (by decide) ?_
      refine lv_iadd hx hb dL_law_283 ?_
      refine m_sld hx hb hX hbl hbA hS (i0 + 2) (nI_add i0 2) (by omega) hL h2 dL_law_284 ?_
      refine m_ci (m_runV (n := 2) (rest := []) ⟨hx, hb, hml, hown, hG⟩ (c_bake_bad l X (mq X B n wm dy tl g' hs t) A n ad g wm dy tl hs t j 7 hn hI.2.2.1 hj v2 (by decide) (ovB_no ho0)) kw_434 kw_435 kw_436 kw_18 kw_437 (by decide +kernel) ⟨by decide, by decide⟩ hF hz hS (q0 := 10) rfl rfl rfl hl.1 rfl (Nat.le_of_ble_eq_true rfl) dL_law_285 ⟨by show cells + 0 ≤ 600000; omega, by show slots + 0 ≤ 7302250; omega⟩) hS (fun r1 w1 H locs hw1 hS => ?_)
      obtain ⟨e1, rfl⟩ := hw1
      rw [wL] at hS
      refine lv_aload_n hx hb dL_law_288 rfl (lv_at hl 3 rfl) ?_
      refine lv_aload_n hx hb dL_law_289 rfl (lv_at hl 1 rfl) ?_
      refine lv_iload_n hx hb dL_law_290 rfl (lv_at hl 0 rfl) ?_
      refine lv_iconst (v := 1) hx hb dL_law_291 (by decide) ?_
      refine lv_iadd hx hb dL_law_292 ?_
      refine m_sld hx hb hX hbl hbA hS (i0 + 1) (nI_1 i0) (by omega) hL h1 dL_law_293 ?_
      refine lv_aload_n hx hb dL_law_294 rfl (lv_at hl 1 rfl) ?_
      refine lv_iload_n hx hb dL_law_295 rfl (lv_at hl 0 rfl) ?_
      refine lv_iconst (v := 2) hx hb dL_law_296 (by decide) ?_
      refine lv_iadd hx hb dL_law_297 ?_
      refine m_sld hx hb hX hbl hbA hS (i0 + 2) (nI_add i0 2) (by omega) hL h2 dL_law_298 ?_
      refine m_ci (m_runV (n := 2) (rest := [.int r1]) ⟨hx, hb, hml, hown, hG⟩ (M_bake_bad l X B n wm dy tl g' hs (rs X A n ad g wm dy tl hs t) t j 6 hn hI.kq' hI.k0' hj v2 (by decide) (ov2_no ho0)) kw_590 kw_591 kw_592 kw_20 kw_593 (by decide +kernel) ⟨by decide, by decide⟩ hF hz hS (q0 := 0) rfl rfl rfl hl.1 rfl (Nat.le_of_ble_eq_true rfl) dL_law_299 ⟨by show cells + 0 + 0 ≤ 600000; omega, by show slots + 0 + 0 ≤ 7302250; omega⟩) hS (fun r2 w2 H locs hw2 hS => ?_)
      obtain ⟨e2, rfl⟩ := hw2
      rw [← wL] at hS
      refine lv_icmp_eq (tgt := 422) hx hb dL_law_302 (by decide) (fun c_1 => ?_) (fun c_1 => absurd (by rw [e1, e2]) c_1)
      refine W.widen (k := cells + 1) (n := slots + 8) (by show cells + 0 + 0 ≤ cells + 1; omega) (by show slots + 0 + 0 ≤ slots + 8; omega) ?_
      exact kk _ _ _ _ _ _ _ _ _ _ _ (hI) hS
    · by_cases h0 : ¬ g j 3 = 0 ∨ ¬ needV (kd (g j)) (g j 1) ≤ g j 4
      · refine lv_aload_n hx hb dL_law_274 rfl (lv_at hl 2 rfl) ?_
        refine lv_aload_n hx hb dL_law_275 rfl (lv_at hl 1 rfl) ?_
        refine lv_iload_n hx hb dL_law_276 rfl (lv_at hl 0 rfl) ?_
        refine lv_iconst (v := 1) hx hb dL_law_277 (by decide) ?_
        refine lv_iadd hx hb dL_law_278 ?_
        refine m_sld hx hb hX hbl hbA hS (i0 + 1) (nI_1 i0) (by omega) hL h1 dL_law_279 ?_
        refine lv_aload_n hx hb dL_law_280 rfl (lv_at hl 1 rfl) ?_
        refine lv_iload_n hx hb dL_law_281 rfl (lv_at hl 0 rfl) ?_
        refine lv_iconst (v := 2) hx hb dL_law_282 (by decide) ?_
        refine lv_iadd hx hb dL_law_283 ?_
        refine m_sld hx hb hX hbl hbA hS (i0 + 2) (nI_add i0 2) (by omega) hL h2 dL_law_284 ?_
        refine m_ci (m_runV (n := 2) (rest := []) ⟨hx, hb, hml, hown, hG⟩ (c_bake_no l X (mq X B n wm dy tl g' hs t) A n ad g wm dy tl hs t j 7 hn hI.2.2.1 hj o ho (by decide) h0) kw_434 kw_435 kw_436 kw_18 kw_437 (by decide +kernel) ⟨by decide, by decide⟩ hF hz hS (q0 := 10) rfl rfl rfl hl.1 rfl (Nat.le_of_ble_eq_true rfl) dL_law_285 ⟨by show cells + 0 ≤ 600000; omega, by show slots + 0 ≤ 7302250; omega⟩) hS (fun r1 w1 H locs hw1 hS => ?_)
        obtain ⟨e1, rfl⟩ := hw1
        rw [wL] at hS
        refine lv_aload_n hx hb dL_law_288 rfl (lv_at hl 3 rfl) ?_
        refine lv_aload_n hx hb dL_law_289 rfl (lv_at hl 1 rfl) ?_
        refine lv_iload_n hx hb dL_law_290 rfl (lv_at hl 0 rfl) ?_
        refine lv_iconst (v := 1) hx hb dL_law_291 (by decide) ?_
        refine lv_iadd hx hb dL_law_292 ?_
        refine m_sld hx hb hX hbl hbA hS (i0 + 1) (nI_1 i0) (by omega) hL h1 dL_law_293 ?_
        refine lv_aload_n hx hb dL_law_294 rfl (lv_at hl 1 rfl) ?_
        refine lv_iload_n hx hb dL_law_295 rfl (lv_at hl 0 rfl) ?_
        refine lv_iconst (v := 2) hx hb dL_law_296 (by decide) ?_
        refine lv_iadd hx hb dL_law_297 ?_
        refine m_sld hx hb hX hbl hbA hS (i0 + 2) (nI_add i0 2) (by omega) hL h2 dL_law_298 ?_
        refine m_ci (m_runV (n := 2) (rest := [.int r1]) ⟨hx, hb, hml, hown, hG⟩ (M_bake_no l X B n wm dy tl g' hs (rs X A n ad g wm dy tl hs t) t j 6 hn hI.kq' hI.k0' hj o ho (by decide) (by rw [← e.kq, ← e.1 3 (by decide), ← e.1 1 (by decide), ← e.1 4 (by decide)]; exact h0)) kw_590 kw_591 kw_592 kw_20 kw_593 (by decide +kernel) ⟨by decide, by decide⟩ hF hz hS (q0 := 0) rfl rfl rfl hl.1 rfl (Nat.le_of_ble_eq_true rfl) dL_law_299 ⟨by show cells + 0 + 0 ≤ 600000; omega, by show slots + 0 + 0 ≤ 7302250; omega⟩) hS (fun r2 w2 H locs hw2 hS => ?_)
        obtain ⟨e2, rfl⟩ := hw2
        rw [← wL] at hS
        refine lv_icmp_eq (tgt := 422) hx hb dL_law_302 (by decide) (fun c_1 => ?_) (fun c_1 => absurd (by rw [e1, e2]) c_1)
        refine W.widen (k := cells + 1) (n := slots + 8) (by show cells + 0 + 0 ≤ cells + 1; omega) (by show slots + 0 + 0 ≤ slots + 8; omega) ?_
        exact kk _ _ _ _ _ _ _ _ _ _ _ (hI) hS
      · have ha : g j 3 = 0 := Classical.not_not.mp (fun q => h0 (Or.inl q))
        have hb2 : needV (kd (g j)) (g j 1) ≤ g j 4 := Classical.not_not.mp (fun q => h0 (Or.inr q))
        have ha' : g' j 3 = 0 := by rw [← e.1 3 (by decide)]; exact ha
        have hb' : needV (kd (g' j)) (g' j 1) ≤ g' j 4 := by rw [← e.kq, ← e.1 1 (by decide), ← e.1 4 (by decide)]; exact hb2
        by_cases hm : masm g (nI o) n + g j 1 ≤ 800
        · refine lv_aload_n hx hb dL_law_274 rfl (lv_at hl 2 rfl) ?_
          refine lv_aload_n hx hb dL_law_275 rfl (lv_at hl 1 rfl) ?_
          refine lv_iload_n hx hb dL_law_276 rfl (lv_at hl 0 rfl) ?_
          refine lv_iconst (v := 1) hx hb dL_law_277 (by decide) ?_
          refine lv_iadd hx hb dL_law_278 ?_
          refine m_sld hx hb hX hbl hbA hS (i0 + 1) (nI_1 i0) (by omega) hL h1 dL_law_279 ?_
          refine lv_aload_n hx hb dL_law_280 rfl (lv_at hl 1 rfl) ?_
          refine lv_iload_n hx hb dL_law_281 rfl (lv_at hl 0 rfl) ?_
          refine lv_iconst (v := 2) hx hb dL_law_282 (by decide) ?_
          refine lv_iadd hx hb dL_law_283 ?_
          refine m_sld hx hb hX hbl hbA hS (i0 + 2) (nI_add i0 2) (by omega) hL h2 dL_law_284 ?_
          refine m_ci (m_runV (n := 2) (rest := []) ⟨hx, hb, hml, hown, hG⟩ (c_bake l X (mq X B n wm dy tl g' hs t) A n ad g wm dy tl hs t j 7 hn hI.2.2.1 hj o ho (by decide) ha hb2 hm) kw_434 kw_435 kw_436 kw_18 kw_437 (by decide +kernel) ⟨by decide, by decide⟩ hF hz hS (q0 := 10) rfl rfl rfl hl.1 rfl (Nat.le_of_ble_eq_true rfl) dL_law_285 ⟨by show cells + 0 ≤ 600000; omega, by show slots + 0 ≤ 7302250; omega⟩) hS (fun r1 w1 H locs hw1 hS => ?_)
          obtain ⟨e1, rfl⟩ := hw1
          rw [wL] at hS
          refine lv_aload_n hx hb dL_law_288 rfl (lv_at hl 3 rfl) ?_
          refine lv_aload_n hx hb dL_law_289 rfl (lv_at hl 1 rfl) ?_
          refine lv_iload_n hx hb dL_law_290 rfl (lv_at hl 0 rfl) ?_
          refine lv_iconst (v := 1) hx hb dL_law_291 (by decide) ?_
          refine lv_iadd hx hb dL_law_292 ?_
          refine m_sld hx hb hX hbl hbA hS (i0 + 1) (nI_1 i0) (by omega) hL h1 dL_law_293 ?_
          refine lv_aload_n hx hb dL_law_294 rfl (lv_at hl 1 rfl) ?_
          refine lv_iload_n hx hb dL_law_295 rfl (lv_at hl 0 rfl) ?_
          refine lv_iconst (v := 2) hx hb dL_law_296 (by decide) ?_
          refine lv_iadd hx hb dL_law_297 ?_
          refine m_sld hx hb hX hbl hbA hS (i0 + 2) (nI_add i0 2) (by omega) hL h2 dL_law_298 ?_
          refine m_ci (m_runV (n := 2) (rest := [.int r1]) ⟨hx, hb, hml, hown, hG⟩ (M_bake l X B n wm dy tl g' hs (rs X A n ad (va_up g j (va_up (va_up (g j) 3 1) 6 (nI o))) wm dy tl hs t) t j 6 hn hI.kq' hI.k0' hj o ho (by decide) ha' hb' (by rw [← masm_eq hI.2.1, ← e.1 1 (by decide)]; exact hm)) kw_590 kw_591 kw_592 kw_20 kw_593 (by decide +kernel) ⟨by decide, by decide⟩ hF hz hS (q0 := 0) rfl rfl rfl hl.1 rfl (Nat.le_of_ble_eq_true rfl) dL_law_299 ⟨by show cells + 0 + 0 ≤ 600000; omega, by show slots + 0 + 0 ≤ 7302250; omega⟩) hS (fun r2 w2 H locs hw2 hS => ?_)
          obtain ⟨e2, rfl⟩ := hw2
          rw [← wL] at hS
          refine lv_icmp_eq (tgt := 422) hx hb dL_law_302 (by decide) (fun c_1 => ?_) (fun c_1 => absurd (by rw [e1, e2]; exact (by rw [masm_bake ha' n hj, ← masm_eq hI.2.1, ← e.1 1 (by decide)])) c_1)
          refine W.widen (k := cells + 1) (n := slots + 8) (by show cells + 0 + 0 ≤ cells + 1; omega) (by show slots + 0 + 0 ≤ slots + 8; omega) ?_
          exact kk _ _ _ _ _ _ _ _ _ _ _ (hI.up hj (eqv_up (eqv_st e (by decide)) (by decide) (by decide)) rfl ⟨o, ho, rfl⟩) hS
        · refine lv_aload_n hx hb dL_law_274 rfl (lv_at hl 2 rfl) ?_
          refine lv_aload_n hx hb dL_law_275 rfl (lv_at hl 1 rfl) ?_
          refine lv_iload_n hx hb dL_law_276 rfl (lv_at hl 0 rfl) ?_
          refine lv_iconst (v := 1) hx hb dL_law_277 (by decide) ?_
          refine lv_iadd hx hb dL_law_278 ?_
          refine m_sld hx hb hX hbl hbA hS (i0 + 1) (nI_1 i0) (by omega) hL h1 dL_law_279 ?_
          refine lv_aload_n hx hb dL_law_280 rfl (lv_at hl 1 rfl) ?_
          refine lv_iload_n hx hb dL_law_281 rfl (lv_at hl 0 rfl) ?_
          refine lv_iconst (v := 2) hx hb dL_law_282 (by decide) ?_
          refine lv_iadd hx hb dL_law_283 ?_
          refine m_sld hx hb hX hbl hbA hS (i0 + 2) (nI_add i0 2) (by omega) hL h2 dL_law_284 ?_
          refine m_ci (m_runV (n := 2) (rest := []) ⟨hx, hb, hml, hown, hG⟩ (c_bake_full l X (mq X B n wm dy tl g' hs t) A n ad g wm dy tl hs t j 7 hn hI.2.2.1 hj o ho (by decide) ha hb2 hm) kw_434 kw_435 kw_436 kw_18 kw_437 (by decide +kernel) ⟨by decide, by decide⟩ hF hz hS (q0 := 10) rfl rfl rfl hl.1 rfl (Nat.le_of_ble_eq_true rfl) dL_law_285 ⟨by show cells + 0 ≤ 600000; omega, by show slots + 0 ≤ 7302250; omega⟩) hS (fun r1 w1 H locs hw1 hS => ?_)
          obtain ⟨e1, rfl⟩ := hw1
          rw [wL] at hS
          refine lv_aload_n hx hb dL_law_288 rfl (lv_at hl 3 rfl) ?_
          refine lv_aload_n hx hb dL_law_289 rfl (lv_at hl 1 rfl) ?_
          refine lv_iload_n hx hb dL_law_290 rfl (lv_at hl 0 rfl) ?_
          refine lv_iconst (v := 1) hx hb dL_law_291 (by decide) ?_
          refine lv_iadd hx hb dL_law_292 ?_
          refine m_sld hx hb hX hbl hbA hS (i0 + 1) (nI_1 i0) (by omega) hL h1 dL_law_293 ?_
          refine lv_aload_n hx hb dL_law_294 rfl (lv_at hl 1 rfl) ?_
          refine lv_iload_n hx hb dL_law_295 rfl (lv_at hl 0 rfl) ?_
          refine lv_iconst (v := 2) hx hb dL_law_296 (by decide) ?_
          refine lv_iadd hx hb dL_law_297 ?_
          refine m_sld hx hb hX hbl hbA hS (i0 + 2) (nI_add i0 2) (by omega) hL h2 dL_law_298 ?_
          refine m_ci (m_runV (n := 2) (rest := [.int r1]) ⟨hx, hb, hml, hown, hG⟩ (M_bake_full l X B n wm dy tl g' hs (rs X A n ad g wm dy tl hs t) t j 6 hn hI.kq' hI.k0' hj o ho (by decide) ha' hb' (by rw [← masm_eq hI.2.1, ← e.1 1 (by decide)]; exact hm)) kw_590 kw_591 kw_592 kw_20 kw_593 (by decide +kernel) ⟨by decide, by decide⟩ hF hz hS (q0 := 0) rfl rfl rfl hl.1 rfl (Nat.le_of_ble_eq_true rfl) dL_law_299 ⟨by show cells + 0 + 0 ≤ 600000; omega, by show slots + 0 + 0 ≤ 7302250; omega⟩) hS (fun r2 w2 H locs hw2 hS => ?_)
          obtain ⟨e2, rfl⟩ := hw2
          rw [← wL] at hS
          refine lv_icmp_eq (tgt := 422) hx hb dL_law_302 (by decide) (fun c_1 => ?_) (fun c_1 => absurd (by rw [e1, e2]) c_1)
          refine W.widen (k := cells + 1) (n := slots + 8) (by show cells + 0 + 0 ≤ cells + 1; omega) (by show slots + 0 + 0 ≤ slots + 8; omega) ?_
          exact kk _ _ _ _ _ _ _ _ _ _ _ (hI) hS
set_option maxHeartbeats 4000000 in
set_option maxRecDepth 100000 in
theorem lc_out {p : Program} {l : Launch} {e : Env} {s : State} {m : MethodId} {below : List Frame} {meth : Method} {c : Code} {X : Cx} {b L : Nat} {xs : Nat → Int32} {A B : Nat → Nat} {n : Nat} {ad : Nat → Nat} {g g' : Nat → Rc} {wm dy tl : Int32} {hs : Nat → Int32} {t : Tr} {H : Heap} {locs : List Loc} {cells slots i0 : Nat} {Q : State → Prop} {ls : Array Slot} (lc : LC p s m c X b L xs) (hI : Inv n g g' dy t) (hi : i0 + 4 ≤ L) (hc : cells ≤ 1000) (hsl : slots ≤ 10000) (hS : mS X s (lW X A B n ad g g' wm dy tl hs t) H locs) (hl : lv_has ls 4 [(3, .int (nI i0)), (0, .ref b), (1, .ref (A 0)), (2, .ref (B 0))]) (kk : ∀ (n : Nat) (ad : Nat → Nat) (g g' : Nat → Rc) (wm dy tl : Int32) (hs : Nat → Int32) (t : Tr) (H : Heap) (locs : List Loc), Inv n g g' dy t → mS X s (lW X A B n ad g g' wm dy tl hs t) H locs → W p l e room_1 s m #[Value.ref b] below meth c H locs (cells + 1) (slots + 8) Q (F0 m 422 ls [])) : W p l e room_1 s m #[Value.ref b] below meth c H locs cells slots Q (F0 m 307 ls []) := by
  obtain ⟨hx, hb, hml, hown, hG, hF, hz, hX, hbl, hbA, hL⟩ := lc
  obtain ⟨v1, h1⟩ : ∃ v, xs (i0 + 1) = v := ⟨_, rfl⟩
  have hn := hI.1
  rcases ix2 v1 (n := n) (by omega) with hb0 | ⟨j, hj, rfl⟩
  · refine lv_aload_n hx hb dL_law_307 rfl (lv_at hl 2 rfl) ?_
    refine lv_aload_n hx hb dL_law_308 rfl (lv_at hl 1 rfl) ?_
    refine lv_iload_n hx hb dL_law_309 rfl (lv_at hl 0 rfl) ?_
    refine lv_iconst (v := 1) hx hb dL_law_310 (by decide) ?_
    refine lv_iadd hx hb dL_law_311 ?_
    refine m_sld hx hb hX hbl hbA hS (i0 + 1) (nI_1 i0) (by omega) hL h1 dL_law_312 ?_
    refine m_ci (m_runV (n := 1) (rest := []) ⟨hx, hb, hml, hown, hG⟩ (c_out_nob l X (mq X B n wm dy tl g' hs t) A n ad g wm dy tl hs t v1 7 (by decide) hn hb0) kw_442 kw_443 kw_444 kw_18 kw_445 (by decide +kernel) ⟨by decide, by decide⟩ hF hz hS (q0 := 10) rfl rfl rfl hl.1 rfl (Nat.le_of_ble_eq_true rfl) dL_law_313 ⟨by show cells + 0 ≤ 600000; omega, by show slots + 0 ≤ 7302250; omega⟩) hS (fun r1 w1 H locs hw1 hS => ?_)
    obtain ⟨e1, rfl⟩ := hw1
    rw [wL] at hS
    refine lv_aload_n hx hb dL_law_316 rfl (lv_at hl 3 rfl) ?_
    refine lv_aload_n hx hb dL_law_317 rfl (lv_at hl 1 rfl) ?_
    refine lv_iload_n hx hb dL_law_318 rfl (lv_at hl 0 rfl) ?_
    refine lv_iconst (v := 1) hx hb dL_law_319 (by decide) ?_
    refine lv_iadd hx hb dL_law_320 ?_
    refine m_sld hx hb hX hbl hbA hS (i0 + 1) (nI_1 i0) (by omega) hL h1 dL_law_321 ?_
    refine m_ci (m_runV (n := 1) (rest := [.int r1]) ⟨hx, hb, hml, hown, hG⟩ (M_out_nob l X B n wm dy tl g' hs (rs X A n ad g wm dy tl hs t) t v1 6 (by decide) hn hb0) kw_598 kw_599 kw_600 kw_20 kw_601 (by decide +kernel) ⟨by decide, by decide⟩ hF hz hS (q0 := 0) rfl rfl rfl hl.1 rfl (Nat.le_of_ble_eq_true rfl) dL_law_322 ⟨by show cells + 0 + 0 ≤ 600000; omega, by show slots + 0 + 0 ≤ 7302250; omega⟩) hS (fun r2 w2 H locs hw2 hS => ?_)
    obtain ⟨e2, rfl⟩ := hw2
    rw [← wL] at hS
    refine lv_icmp_eq (tgt := 422) hx hb dL_law_325 (by decide) (fun c_1 => ?_) (fun c_1 => absurd (by rw [e1, e2]) c_1)
    refine W.widen (k := cells + 1) (n := slots + 8) (by show cells + 0 + 0 ≤ cells + 1; omega) (by show slots + 0 + 0 ≤ slots + 8; omega) ?_
    exact kk _ _ _ _ _ _ _ _ _ _ _ (hI) hS
  · have e := hI.2.1 j hj
    by_cases h0 : g j 3 = 1
    · have h0' : g' j 3 = 1 := by rw [← e.1 3 (by decide)]; exact h0
      by_cases h5 : g j 5 < 40
      · refine lv_aload_n hx hb dL_law_307 rfl (lv_at hl 2 rfl) ?_
        refine lv_aload_n hx hb dL_law_308 rfl (lv_at hl 1 rfl) ?_
        refine lv_iload_n hx hb dL_law_309 rfl (lv_at hl 0 rfl) ?_
        refine lv_iconst (v := 1) hx hb dL_law_310 (by decide) ?_
        refine lv_iadd hx hb dL_law_311 ?_
        refine m_sld hx hb hX hbl hbA hS (i0 + 1) (nI_1 i0) (by omega) hL h1 dL_law_312 ?_
        refine m_ci (m_runV (n := 1) (rest := []) ⟨hx, hb, hml, hown, hG⟩ (c_out_lost l X (mq X B n wm dy tl g' hs t) A n ad g wm dy tl hs t j 7 hn hI.2.2.1 hj (by decide) h0 h5) kw_442 kw_443 kw_444 kw_18 kw_445 (by decide +kernel) ⟨by decide, by decide⟩ hF hz hS (q0 := 10) rfl rfl rfl hl.1 rfl (Nat.le_of_ble_eq_true rfl) dL_law_313 ⟨by show cells + 0 ≤ 600000; omega, by show slots + 0 ≤ 7302250; omega⟩) hS (fun r1 w1 H locs hw1 hS => ?_)
        obtain ⟨e1, rfl⟩ := hw1
        rw [wL] at hS
        refine lv_aload_n hx hb dL_law_316 rfl (lv_at hl 3 rfl) ?_
        refine lv_aload_n hx hb dL_law_317 rfl (lv_at hl 1 rfl) ?_
        refine lv_iload_n hx hb dL_law_318 rfl (lv_at hl 0 rfl) ?_
        refine lv_iconst (v := 1) hx hb dL_law_319 (by decide) ?_
        refine lv_iadd hx hb dL_law_320 ?_
        refine m_sld hx hb hX hbl hbA hS (i0 + 1) (nI_1 i0) (by omega) hL h1 dL_law_321 ?_
        refine m_ci (m_runV (n := 1) (rest := [.int r1]) ⟨hx, hb, hml, hown, hG⟩ (M_out_lost l X B n wm dy tl g' hs (rs X A n ad (va_up g j (va_up (g j) 3 4)) wm dy tl hs t) t j 6 hn hI.kq' hI.k0' hj (by decide) h0' (by rw [← e.1 5 (by decide)]; exact h5)) kw_598 kw_599 kw_600 kw_20 kw_601 (by decide +kernel) ⟨by decide, by decide⟩ hF hz hS (q0 := 0) rfl rfl rfl hl.1 rfl (Nat.le_of_ble_eq_true rfl) dL_law_322 ⟨by show cells + 0 + 0 ≤ 600000; omega, by show slots + 0 + 0 ≤ 7302250; omega⟩) hS (fun r2 w2 H locs hw2 hS => ?_)
        obtain ⟨e2, rfl⟩ := hw2
        rw [← wL] at hS
        refine lv_icmp_eq (tgt := 422) hx hb dL_law_325 (by decide) (fun c_1 => ?_) (fun c_1 => absurd (by rw [e1, e2]; exact e.1 5 (by decide)) c_1)
        refine W.widen (k := cells + 1) (n := slots + 8) (by show cells + 0 + 0 ≤ cells + 1; omega) (by show slots + 0 + 0 ≤ slots + 8; omega) ?_
        exact kk _ _ _ _ _ _ _ _ _ _ _ (hI.up hj (eqv_7 (eqv_st e (by decide)) (by rw [va_up_self]; decide)) rfl (hI.2.2.2.2.1 j hj)) hS
      · refine lv_aload_n hx hb dL_law_307 rfl (lv_at hl 2 rfl) ?_
        refine lv_aload_n hx hb dL_law_308 rfl (lv_at hl 1 rfl) ?_
        refine lv_iload_n hx hb dL_law_309 rfl (lv_at hl 0 rfl) ?_
        refine lv_iconst (v := 1) hx hb dL_law_310 (by decide) ?_
        refine lv_iadd hx hb dL_law_311 ?_
        refine m_sld hx hb hX hbl hbA hS (i0 + 1) (nI_1 i0) (by omega) hL h1 dL_law_312 ?_
        refine m_ci (m_runV (n := 1) (rest := []) ⟨hx, hb, hml, hown, hG⟩ (c_out_done l X (mq X B n wm dy tl g' hs t) A n ad g wm dy tl hs t j 7 hn hI.2.2.1 hj (by decide) h0 h5) kw_442 kw_443 kw_444 kw_18 kw_445 (by decide +kernel) ⟨by decide, by decide⟩ hF hz hS (q0 := 10) rfl rfl rfl hl.1 rfl (Nat.le_of_ble_eq_true rfl) dL_law_313 ⟨by show cells + 0 ≤ 600000; omega, by show slots + 0 ≤ 7302250; omega⟩) hS (fun r1 w1 H locs hw1 hS => ?_)
        obtain ⟨e1, rfl⟩ := hw1
        rw [wL] at hS
        refine lv_aload_n hx hb dL_law_316 rfl (lv_at hl 3 rfl) ?_
        refine lv_aload_n hx hb dL_law_317 rfl (lv_at hl 1 rfl) ?_
        refine lv_iload_n hx hb dL_law_318 rfl (lv_at hl 0 rfl) ?_
        refine lv_iconst (v := 1) hx hb dL_law_319 (by decide) ?_
        refine lv_iadd hx hb dL_law_320 ?_
        refine m_sld hx hb hX hbl hbA hS (i0 + 1) (nI_1 i0) (by omega) hL h1 dL_law_321 ?_
        refine m_ci (m_runV (n := 1) (rest := [.int r1]) ⟨hx, hb, hml, hown, hG⟩ (M_out_done l X B n wm dy tl g' hs (rs X A n ad (va_up g j (va_up (va_up (g j) 3 2) 7 dy)) wm dy tl hs t) t j 6 hn hI.kq' hI.k0' hj (by decide) h0' (by rw [← e.1 5 (by decide)]; exact h5)) kw_598 kw_599 kw_600 kw_20 kw_601 (by decide +kernel) ⟨by decide, by decide⟩ hF hz hS (q0 := 0) rfl rfl rfl hl.1 rfl (Nat.le_of_ble_eq_true rfl) dL_law_322 ⟨by show cells + 0 + 0 ≤ 600000; omega, by show slots + 0 + 0 ≤ 7302250; omega⟩) hS (fun r2 w2 H locs hw2 hS => ?_)
        obtain ⟨e2, rfl⟩ := hw2
        rw [← wL] at hS
        refine lv_icmp_eq (tgt := 422) hx hb dL_law_325 (by decide) (fun c_1 => ?_) (fun c_1 => absurd (by rw [e1, e2]; exact e.1 5 (by decide)) c_1)
        refine W.widen (k := cells + 1) (n := slots + 8) (by show cells + 0 + 0 ≤ cells + 1; omega) (by show slots + 0 + 0 ≤ slots + 8; omega) ?_
        exact kk _ _ _ _ _ _ _ _ _ _ _ (hI.up hj (eqv_done e) rfl (hI.2.2.2.2.1 j hj)) hS
    · refine lv_aload_n hx hb dL_law_307 rfl (lv_at hl 2 rfl) ?_
      refine lv_aload_n hx hb dL_law_308 rfl (lv_at hl 1 rfl) ?_
      refine lv_iload_n hx hb dL_law_309 rfl (lv_at hl 0 rfl) ?_
      refine lv_iconst (v := 1) hx hb dL_law_310 (by decide) ?_
      refine lv_iadd hx hb dL_law_311 ?_
      refine m_sld hx hb hX hbl hbA hS (i0 + 1) (nI_1 i0) (by omega) hL h1 dL_law_312 ?_
      refine m_ci (m_runV (n := 1) (rest := []) ⟨hx, hb, hml, hown, hG⟩ (c_out_no l X (mq X B n wm dy tl g' hs t) A n ad g wm dy tl hs t j 7 hn hI.2.2.1 hj (by decide) h0) kw_442 kw_443 kw_444 kw_18 kw_445 (by decide +kernel) ⟨by decide, by decide⟩ hF hz hS (q0 := 10) rfl rfl rfl hl.1 rfl (Nat.le_of_ble_eq_true rfl) dL_law_313 ⟨by show cells + 0 ≤ 600000; omega, by show slots + 0 ≤ 7302250; omega⟩) hS (fun r1 w1 H locs hw1 hS => ?_)
      obtain ⟨e1, rfl⟩ := hw1
      rw [wL] at hS
      refine lv_aload_n hx hb dL_law_316 rfl (lv_at hl 3 rfl) ?_
      refine lv_aload_n hx hb dL_law_317 rfl (lv_at hl 1 rfl) ?_
      refine lv_iload_n hx hb dL_law_318 rfl (lv_at hl 0 rfl) ?_
      refine lv_iconst (v := 1) hx hb dL_law_319 (by decide) ?_
      refine lv_iadd hx hb dL_law_320 ?_
      refine m_sld hx hb hX hbl hbA hS (i0 + 1) (nI_1 i0) (by omega) hL h1 dL_law_321 ?_
      refine m_ci (m_runV (n := 1) (rest := [.int r1]) ⟨hx, hb, hml, hown, hG⟩ (M_out_no l X B n wm dy tl g' hs (rs X A n ad g wm dy tl hs t) t j 6 hn hI.kq' hI.k0' hj (by decide) (by rw [← e.1 3 (by decide)]; exact h0)) kw_598 kw_599 kw_600 kw_20 kw_601 (by decide +kernel) ⟨by decide, by decide⟩ hF hz hS (q0 := 0) rfl rfl rfl hl.1 rfl (Nat.le_of_ble_eq_true rfl) dL_law_322 ⟨by show cells + 0 + 0 ≤ 600000; omega, by show slots + 0 + 0 ≤ 7302250; omega⟩) hS (fun r2 w2 H locs hw2 hS => ?_)
      obtain ⟨e2, rfl⟩ := hw2
      rw [← wL] at hS
      refine lv_icmp_eq (tgt := 422) hx hb dL_law_325 (by decide) (fun c_1 => ?_) (fun c_1 => absurd (by rw [e1, e2]) c_1)
      refine W.widen (k := cells + 1) (n := slots + 8) (by show cells + 0 + 0 ≤ cells + 1; omega) (by show slots + 0 + 0 ≤ slots + 8; omega) ?_
      exact kk _ _ _ _ _ _ _ _ _ _ _ (hI) hS
set_option maxHeartbeats 4000000 in
set_option maxRecDepth 100000 in
theorem lc_sell {p : Program} {l : Launch} {e : Env} {s : State} {m : MethodId} {below : List Frame} {meth : Method} {c : Code} {X : Cx} {b L : Nat} {xs : Nat → Int32} {A B : Nat → Nat} {n : Nat} {ad : Nat → Nat} {g g' : Nat → Rc} {wm dy tl : Int32} {hs : Nat → Int32} {t : Tr} {H : Heap} {locs : List Loc} {cells slots i0 : Nat} {Q : State → Prop} {ls : Array Slot} (lc : LC p s m c X b L xs) (hI : Inv n g g' dy t) (hi : i0 + 4 ≤ L) (hc : cells ≤ 1000) (hsl : slots ≤ 10000) (hS : mS X s (lW X A B n ad g g' wm dy tl hs t) H locs) (hl : lv_has ls 4 [(3, .int (nI i0)), (0, .ref b), (1, .ref (A 0)), (2, .ref (B 0))]) (kk : ∀ (n : Nat) (ad : Nat → Nat) (g g' : Nat → Rc) (wm dy tl : Int32) (hs : Nat → Int32) (t : Tr) (H : Heap) (locs : List Loc), Inv n g g' dy t → mS X s (lW X A B n ad g g' wm dy tl hs t) H locs → W p l e room_1 s m #[Value.ref b] below meth c H locs (cells + 1) (slots + 8) Q (F0 m 422 ls [])) : W p l e room_1 s m #[Value.ref b] below meth c H locs cells slots Q (F0 m 330 ls []) := by
  obtain ⟨hx, hb, hml, hown, hG, hF, hz, hX, hbl, hbA, hL⟩ := lc
  obtain ⟨v1, h1⟩ : ∃ v, xs (i0 + 1) = v := ⟨_, rfl⟩
  have hn := hI.1
  rcases ix2 v1 (n := n) (by omega) with hb0 | ⟨j, hj, rfl⟩
  · refine lv_aload_n hx hb dL_law_330 rfl (lv_at hl 2 rfl) ?_
    refine lv_aload_n hx hb dL_law_331 rfl (lv_at hl 1 rfl) ?_
    refine lv_iload_n hx hb dL_law_332 rfl (lv_at hl 0 rfl) ?_
    refine lv_iconst (v := 1) hx hb dL_law_333 (by decide) ?_
    refine lv_iadd hx hb dL_law_334 ?_
    refine m_sld hx hb hX hbl hbA hS (i0 + 1) (nI_1 i0) (by omega) hL h1 dL_law_335 ?_
    refine m_ci (m_runV (n := 1) (rest := []) ⟨hx, hb, hml, hown, hG⟩ (c_sell_nob l X (mq X B n wm dy tl g' hs t) A n ad g wm dy tl hs t v1 7 (by decide) hn hb0) kw_446 kw_447 kw_448 kw_18 kw_449 (by decide +kernel) ⟨by decide, by decide⟩ hF hz hS (q0 := 10) rfl rfl rfl hl.1 rfl (Nat.le_of_ble_eq_true rfl) dL_law_336 ⟨by show cells + 0 ≤ 600000; omega, by show slots + 0 ≤ 7302250; omega⟩) hS (fun r1 w1 H locs hw1 hS => ?_)
    obtain ⟨e1, rfl⟩ := hw1
    rw [wL] at hS
    refine lv_aload_n hx hb dL_law_339 rfl (lv_at hl 3 rfl) ?_
    refine lv_aload_n hx hb dL_law_340 rfl (lv_at hl 1 rfl) ?_
    refine lv_iload_n hx hb dL_law_341 rfl (lv_at hl 0 rfl) ?_
    refine lv_iconst (v := 1) hx hb dL_law_342 (by decide) ?_
    refine lv_iadd hx hb dL_law_343 ?_
    refine m_sld hx hb hX hbl hbA hS (i0 + 1) (nI_1 i0) (by omega) hL h1 dL_law_344 ?_
    refine m_ci (m_runV (n := 1) (rest := [.int r1]) ⟨hx, hb, hml, hown, hG⟩ (M_sell_nob l X B n wm dy tl g' hs (rs X A n ad g wm dy tl hs t) t v1 6 (by decide) hn hb0) kw_602 kw_603 kw_604 kw_20 kw_605 (by decide +kernel) ⟨by decide, by decide⟩ hF hz hS (q0 := 0) rfl rfl rfl hl.1 rfl (Nat.le_of_ble_eq_true rfl) dL_law_345 ⟨by show cells + 0 + 0 ≤ 600000; omega, by show slots + 0 + 0 ≤ 7302250; omega⟩) hS (fun r2 w2 H locs hw2 hS => ?_)
    obtain ⟨e2, rfl⟩ := hw2
    rw [← wL] at hS
    refine lv_icmp_eq (tgt := 422) hx hb dL_law_348 (by decide) (fun c_1 => ?_) (fun c_1 => absurd (by rw [e1, e2]) c_1)
    refine W.widen (k := cells + 1) (n := slots + 8) (by show cells + 0 + 0 ≤ cells + 1; omega) (by show slots + 0 + 0 ≤ slots + 8; omega) ?_
    exact kk _ _ _ _ _ _ _ _ _ _ _ (hI) hS
  · have e := hI.2.1 j hj
    by_cases h0 : g j 3 = 2
    · refine lv_aload_n hx hb dL_law_330 rfl (lv_at hl 2 rfl) ?_
      refine lv_aload_n hx hb dL_law_331 rfl (lv_at hl 1 rfl) ?_
      refine lv_iload_n hx hb dL_law_332 rfl (lv_at hl 0 rfl) ?_
      refine lv_iconst (v := 1) hx hb dL_law_333 (by decide) ?_
      refine lv_iadd hx hb dL_law_334 ?_
      refine m_sld hx hb hX hbl hbA hS (i0 + 1) (nI_1 i0) (by omega) hL h1 dL_law_335 ?_
      refine m_ci (m_runV (n := 1) (rest := []) ⟨hx, hb, hml, hown, hG⟩ (c_sell l X (mq X B n wm dy tl g' hs t) A n ad g wm dy tl hs t j 7 hn hI.2.2.1 hj (by decide) h0) kw_446 kw_447 kw_448 kw_18 kw_449 (by decide +kernel) ⟨by decide, by decide⟩ hF hz hS (q0 := 10) rfl rfl rfl hl.1 rfl (Nat.le_of_ble_eq_true rfl) dL_law_336 ⟨by show cells + 0 ≤ 600000; omega, by show slots + 0 ≤ 7302250; omega⟩) hS (fun r1 w1 H locs hw1 hS => ?_)
      obtain ⟨e1, rfl⟩ := hw1
      rw [wL] at hS
      refine lv_aload_n hx hb dL_law_339 rfl (lv_at hl 3 rfl) ?_
      refine lv_aload_n hx hb dL_law_340 rfl (lv_at hl 1 rfl) ?_
      refine lv_iload_n hx hb dL_law_341 rfl (lv_at hl 0 rfl) ?_
      refine lv_iconst (v := 1) hx hb dL_law_342 (by decide) ?_
      refine lv_iadd hx hb dL_law_343 ?_
      refine m_sld hx hb hX hbl hbA hS (i0 + 1) (nI_1 i0) (by omega) hL h1 dL_law_344 ?_
      refine m_ci (m_runV (n := 1) (rest := [.int r1]) ⟨hx, hb, hml, hown, hG⟩ (M_sell l X B n wm dy tl g' hs (rs X A n ad (va_up g j (va_up (g j) 3 3)) wm dy (tl + sellV dy (g j)) hs t) t j 6 hn hI.kq' hI.k0' hj (by decide) (by rw [← e.1 3 (by decide)]; exact h0)) kw_602 kw_603 kw_604 kw_20 kw_605 (by decide +kernel) ⟨by decide, by decide⟩ hF hz hS (q0 := 0) rfl rfl rfl hl.1 rfl (Nat.le_of_ble_eq_true rfl) dL_law_345 ⟨by show cells + 0 + 0 ≤ 600000; omega, by show slots + 0 + 0 ≤ 7302250; omega⟩) hS (fun r2 w2 H locs hw2 hS => ?_)
      obtain ⟨e2, rfl⟩ := hw2
      rw [← sellV_eq (dy := dy) e h0] at hS
      rw [← wL] at hS
      refine lv_icmp_eq (tgt := 422) hx hb dL_law_348 (by decide) (fun c_1 => ?_) (fun c_1 => absurd (by rw [e1, e2]; exact sellV_eq e h0) c_1)
      refine W.widen (k := cells + 1) (n := slots + 8) (by show cells + 0 + 0 ≤ cells + 1; omega) (by show slots + 0 + 0 ≤ slots + 8; omega) ?_
      exact kk _ _ _ _ _ _ _ _ _ _ _ (hI.up hj (eqv_st e (by decide)) rfl (hI.2.2.2.2.1 j hj)) hS
    · refine lv_aload_n hx hb dL_law_330 rfl (lv_at hl 2 rfl) ?_
      refine lv_aload_n hx hb dL_law_331 rfl (lv_at hl 1 rfl) ?_
      refine lv_iload_n hx hb dL_law_332 rfl (lv_at hl 0 rfl) ?_
      refine lv_iconst (v := 1) hx hb dL_law_333 (by decide) ?_
      refine lv_iadd hx hb dL_law_334 ?_
      refine m_sld hx hb hX hbl hbA hS (i0 + 1) (nI_1 i0) (by omega) hL h1 dL_law_335 ?_
      refine m_ci (m_runV (n := 1) (rest := []) ⟨hx, hb, hml, hown, hG⟩ (c_sell_no l X (mq X B n wm dy tl g' hs t) A n ad g wm dy tl hs t j 7 hn hI.2.2.1 hj (by decide) h0) kw_446 kw_447 kw_448 kw_18 kw_449 (by decide +kernel) ⟨by decide, by decide⟩ hF hz hS (q0 := 10) rfl rfl rfl hl.1 rfl (Nat.le_of_ble_eq_true rfl) dL_law_336 ⟨by show cells + 0 ≤ 600000; omega, by show slots + 0 ≤ 7302250; omega⟩) hS (fun r1 w1 H locs hw1 hS => ?_)
      obtain ⟨e1, rfl⟩ := hw1
      rw [wL] at hS
      refine lv_aload_n hx hb dL_law_339 rfl (lv_at hl 3 rfl) ?_
      refine lv_aload_n hx hb dL_law_340 rfl (lv_at hl 1 rfl) ?_
      refine lv_iload_n hx hb dL_law_341 rfl (lv_at hl 0 rfl) ?_
      refine lv_iconst (v := 1) hx hb dL_law_342 (by decide) ?_
      refine lv_iadd hx hb dL_law_343 ?_
      refine m_sld hx hb hX hbl hbA hS (i0 + 1) (nI_1 i0) (by omega) hL h1 dL_law_344 ?_
      refine m_ci (m_runV (n := 1) (rest := [.int r1]) ⟨hx, hb, hml, hown, hG⟩ (M_sell_no l X B n wm dy tl g' hs (rs X A n ad g wm dy tl hs t) t j 6 hn hI.kq' hI.k0' hj (by decide) (by rw [← e.1 3 (by decide)]; exact h0)) kw_602 kw_603 kw_604 kw_20 kw_605 (by decide +kernel) ⟨by decide, by decide⟩ hF hz hS (q0 := 0) rfl rfl rfl hl.1 rfl (Nat.le_of_ble_eq_true rfl) dL_law_345 ⟨by show cells + 0 + 0 ≤ 600000; omega, by show slots + 0 + 0 ≤ 7302250; omega⟩) hS (fun r2 w2 H locs hw2 hS => ?_)
      obtain ⟨e2, rfl⟩ := hw2
      rw [← wL] at hS
      refine lv_icmp_eq (tgt := 422) hx hb dL_law_348 (by decide) (fun c_1 => ?_) (fun c_1 => absurd (by rw [e1, e2]) c_1)
      refine W.widen (k := cells + 1) (n := slots + 8) (by show cells + 0 + 0 ≤ cells + 1; omega) (by show slots + 0 + 0 ≤ slots + 8; omega) ?_
      exact kk _ _ _ _ _ _ _ _ _ _ _ (hI) hS
set_option maxHeartbeats 4000000 in
set_option maxRecDepth 100000 in
theorem lc_day {p : Program} {l : Launch} {e : Env} {s : State} {m : MethodId} {below : List Frame} {meth : Method} {c : Code} {X : Cx} {b L : Nat} {xs : Nat → Int32} {A B : Nat → Nat} {n : Nat} {ad : Nat → Nat} {g g' : Nat → Rc} {wm dy tl : Int32} {hs : Nat → Int32} {t : Tr} {H : Heap} {locs : List Loc} {cells slots i0 : Nat} {Q : State → Prop} {ls : Array Slot} (lc : LC p s m c X b L xs) (hI : Inv n g g' dy t) (hi : i0 + 4 ≤ L) (hc : cells ≤ 1000) (hsl : slots ≤ 10000) (hS : mS X s (lW X A B n ad g g' wm dy tl hs t) H locs) (hl : lv_has ls 4 [(3, .int (nI i0)), (0, .ref b), (1, .ref (A 0)), (2, .ref (B 0))]) (kk : ∀ (n : Nat) (ad : Nat → Nat) (g g' : Nat → Rc) (wm dy tl : Int32) (hs : Nat → Int32) (t : Tr) (H : Heap) (locs : List Loc), Inv n g g' dy t → mS X s (lW X A B n ad g g' wm dy tl hs t) H locs → W p l e room_1 s m #[Value.ref b] below meth c H locs (cells + 1) (slots + 8) Q (F0 m 422 ls [])) : W p l e room_1 s m #[Value.ref b] below meth c H locs cells slots Q (F0 m 353 ls []) := by
  obtain ⟨hx, hb, hml, hown, hG, hF, hz, hX, hbl, hbA, hL⟩ := lc
  have hn := hI.1
  by_cases h0 : dy < 10000
  · refine lv_aload_n hx hb dL_law_353 rfl (lv_at hl 2 rfl) ?_
    refine m_ci (m_runV (n := 0) (rest := []) ⟨hx, hb, hml, hown, hG⟩ (c_day l X (mq X B n wm dy tl g' hs t) A n ad g wm dy tl hs t 7 (by decide) h0 hn hI.2.2.1) kw_453 kw_454 kw_455 kw_18 kw_456 (by decide +kernel) ⟨by decide, by decide⟩ hF hz hS (q0 := 10) rfl rfl rfl hl.1 rfl (Nat.le_of_ble_eq_true rfl) dL_law_354 ⟨by show cells + 0 ≤ 600000; omega, by show slots + 0 ≤ 7302250; omega⟩) hS (fun r1 w1 H locs hw1 hS => ?_)
    obtain ⟨e1, rfl⟩ := hw1
    rw [wL] at hS
    refine lv_aload_n hx hb dL_law_357 rfl (lv_at hl 3 rfl) ?_
    refine m_ci (m_runV (n := 0) (rest := [.int r1]) ⟨hx, hb, hml, hown, hG⟩ (M_day l X B n wm dy tl g' hs (rs X A n ad (gup (dayR dy) g n) wm (dy + 1) tl hs t) t 6 (by decide) (fun q => absurd h0 (by rw [q]; decide)) hn hI.kq' hI.k0') kw_606 kw_607 kw_608 kw_20 kw_609 (by decide +kernel) ⟨by decide, by decide⟩ hF hz hS (q0 := 0) rfl rfl rfl hl.1 rfl (Nat.le_of_ble_eq_true rfl) dL_law_358 ⟨by show cells + 0 + 0 ≤ 600000; omega, by show slots + 0 + 0 ≤ 7302250; omega⟩) hS (fun r2 w2 H locs hw2 hS => ?_)
    obtain ⟨e2, rfl⟩ := hw2
    rw [← wL] at hS
    refine lv_icmp_eq (tgt := 422) hx hb dL_law_361 (by decide) (fun c_1 => ?_) (fun c_1 => absurd (by rw [e1, e2]; exact dayC_eq hI.2.1) c_1)
    refine W.widen (k := cells + 1) (n := slots + 8) (by show cells + 0 + 0 ≤ cells + 1; omega) (by show slots + 0 + 0 ≤ slots + 8; omega) ?_
    exact kk _ _ _ _ _ _ _ _ _ _ _ (hI.day h0) hS
  · have h1 : dy = 10000 := by
      obtain ⟨d, hd, rfl⟩ := hI.2.2.2.2.2.2.1
      have h2 : ¬ nI d < nI 10000 := h0
      rw [nI_ltI (by omega) (by decide)] at h2
      rw [show d = 10000 by omega]; rfl
    refine lv_aload_n hx hb dL_law_353 rfl (lv_at hl 2 rfl) ?_
    refine m_ci (m_runV (n := 0) (rest := []) ⟨hx, hb, hml, hown, hG⟩ (c_day_full l X (mq X B n wm dy tl g' hs t) A n ad g wm dy tl hs t 7 h0) kw_453 kw_454 kw_455 kw_18 kw_456 (by decide +kernel) ⟨by decide, by decide⟩ hF hz hS (q0 := 10) rfl rfl rfl hl.1 rfl (Nat.le_of_ble_eq_true rfl) dL_law_354 ⟨by show cells + 0 ≤ 600000; omega, by show slots + 0 ≤ 7302250; omega⟩) hS (fun r1 w1 H locs hw1 hS => ?_)
    obtain ⟨e1, rfl⟩ := hw1
    rw [wL] at hS
    refine lv_aload_n hx hb dL_law_357 rfl (lv_at hl 3 rfl) ?_
    refine m_ci (m_runV (n := 0) (rest := [.int r1]) ⟨hx, hb, hml, hown, hG⟩ (M_day_full l X B n wm dy tl g' hs (rs X A n ad g wm dy tl hs t) t 6 h1) kw_606 kw_607 kw_608 kw_20 kw_609 (by decide +kernel) ⟨by decide, by decide⟩ hF hz hS (q0 := 0) rfl rfl rfl hl.1 rfl (Nat.le_of_ble_eq_true rfl) dL_law_358 ⟨by show cells + 0 + 0 ≤ 600000; omega, by show slots + 0 + 0 ≤ 7302250; omega⟩) hS (fun r2 w2 H locs hw2 hS => ?_)
    obtain ⟨e2, rfl⟩ := hw2
    rw [← wL] at hS
    refine lv_icmp_eq (tgt := 422) hx hb dL_law_361 (by decide) (fun c_1 => ?_) (fun c_1 => absurd (by rw [e1, e2]) c_1)
    refine W.widen (k := cells + 1) (n := slots + 8) (by show cells + 0 + 0 ≤ cells + 1; omega) (by show slots + 0 + 0 ≤ slots + 8; omega) ?_
    exact kk _ _ _ _ _ _ _ _ _ _ _ (hI) hS
set_option maxHeartbeats 4000000 in
set_option maxRecDepth 100000 in
theorem lc_told {p : Program} {l : Launch} {e : Env} {s : State} {m : MethodId} {below : List Frame} {meth : Method} {c : Code} {X : Cx} {b L : Nat} {xs : Nat → Int32} {A B : Nat → Nat} {n : Nat} {ad : Nat → Nat} {g g' : Nat → Rc} {wm dy tl : Int32} {hs : Nat → Int32} {t : Tr} {H : Heap} {locs : List Loc} {cells slots i0 : Nat} {Q : State → Prop} {ls : Array Slot} (lc : LC p s m c X b L xs) (hI : Inv n g g' dy t) (hi : i0 + 4 ≤ L) (hc : cells ≤ 1000) (hsl : slots ≤ 10000) (hS : mS X s (lW X A B n ad g g' wm dy tl hs t) H locs) (hl : lv_has ls 4 [(3, .int (nI i0)), (0, .ref b), (1, .ref (A 0)), (2, .ref (B 0))]) (kk : ∀ (n : Nat) (ad : Nat → Nat) (g g' : Nat → Rc) (wm dy tl : Int32) (hs : Nat → Int32) (t : Tr) (H : Heap) (locs : List Loc), Inv n g g' dy t → mS X s (lW X A B n ad g g' wm dy tl hs t) H locs → W p l e room_1 s m #[Value.ref b] below meth c H locs (cells + 1) (slots + 8) Q (F0 m 422 ls [])) : W p l e room_1 s m #[Value.ref b] below meth c H locs cells slots Q (F0 m 366 ls []) := by
  obtain ⟨hx, hb, hml, hown, hG, hF, hz, hX, hbl, hbA, hL⟩ := lc
  obtain ⟨v1, h1⟩ : ∃ v, xs (i0 + 1) = v := ⟨_, rfl⟩
  obtain ⟨v2, h2⟩ : ∃ v, xs (i0 + 2) = v := ⟨_, rfl⟩
  have hn := hI.1
  rcases ix2 v1 (n := n) (by omega) with hb0 | ⟨j, hj, rfl⟩
  · refine lv_aload_n hx hb dL_law_366 rfl (lv_at hl 2 rfl) ?_
    refine lv_aload_n hx hb dL_law_367 rfl (lv_at hl 1 rfl) ?_
    refine lv_iload_n hx hb dL_law_368 rfl (lv_at hl 0 rfl) ?_
    refine lv_iconst (v := 1) hx hb dL_law_369 (by decide) ?_
    refine lv_iadd hx hb dL_law_370 ?_
    refine m_sld hx hb hX hbl hbA hS (i0 + 1) (nI_1 i0) (by omega) hL h1 dL_law_371 ?_
    refine lv_aload_n hx hb dL_law_372 rfl (lv_at hl 1 rfl) ?_
    refine lv_iload_n hx hb dL_law_373 rfl (lv_at hl 0 rfl) ?_
    refine lv_iconst (v := 2) hx hb dL_law_374 (by decide) ?_
    refine lv_iadd hx hb dL_law_375 ?_
    refine m_sld hx hb hX hbl hbA hS (i0 + 2) (nI_add i0 2) (by omega) hL h2 dL_law_376 ?_
    refine m_ci (m_runV (n := 2) (rest := []) ⟨hx, hb, hml, hown, hG⟩ (c_told_nob l X (mq X B n wm dy tl g' hs t) A n ad g wm dy tl hs t v1 v2 7 (by decide) hn hb0) kw_457 kw_458 kw_459 kw_18 kw_460 (by decide +kernel) ⟨by decide, by decide⟩ hF hz hS (q0 := 10) rfl rfl rfl hl.1 rfl (Nat.le_of_ble_eq_true rfl) dL_law_377 ⟨by show cells + 0 ≤ 600000; omega, by show slots + 0 ≤ 7302250; omega⟩) hS (fun r1 w1 H locs hw1 hS => ?_)
    obtain ⟨e1, rfl⟩ := hw1
    rw [wL] at hS
    refine lv_aload_n hx hb dL_law_380 rfl (lv_at hl 3 rfl) ?_
    refine lv_aload_n hx hb dL_law_381 rfl (lv_at hl 1 rfl) ?_
    refine lv_iload_n hx hb dL_law_382 rfl (lv_at hl 0 rfl) ?_
    refine lv_iconst (v := 1) hx hb dL_law_383 (by decide) ?_
    refine lv_iadd hx hb dL_law_384 ?_
    refine m_sld hx hb hX hbl hbA hS (i0 + 1) (nI_1 i0) (by omega) hL h1 dL_law_385 ?_
    refine lv_aload_n hx hb dL_law_386 rfl (lv_at hl 1 rfl) ?_
    refine lv_iload_n hx hb dL_law_387 rfl (lv_at hl 0 rfl) ?_
    refine lv_iconst (v := 2) hx hb dL_law_388 (by decide) ?_
    refine lv_iadd hx hb dL_law_389 ?_
    refine m_sld hx hb hX hbl hbA hS (i0 + 2) (nI_add i0 2) (by omega) hL h2 dL_law_390 ?_
    refine m_ci (m_runV (n := 2) (rest := [.int r1]) ⟨hx, hb, hml, hown, hG⟩ (M_told_nob l X B n wm dy tl g' hs (rs X A n ad g wm dy tl hs t) t v1 v2 6 (by decide) hn hb0) kw_610 kw_611 kw_612 kw_20 kw_613 (by decide +kernel) ⟨by decide, by decide⟩ hF hz hS (q0 := 0) rfl rfl rfl hl.1 rfl (Nat.le_of_ble_eq_true rfl) dL_law_391 ⟨by show cells + 0 + 0 ≤ 600000; omega, by show slots + 0 + 0 ≤ 7302250; omega⟩) hS (fun r2 w2 H locs hw2 hS => ?_)
    obtain ⟨e2, rfl⟩ := hw2
    rw [← wL] at hS
    refine lv_icmp_eq (tgt := 422) hx hb dL_law_394 (by decide) (fun c_1 => ?_) (fun c_1 => absurd (by rw [e1, e2]) c_1)
    refine W.widen (k := cells + 1) (n := slots + 8) (by show cells + 0 + 0 ≤ cells + 1; omega) (by show slots + 0 + 0 ≤ slots + 8; omega) ?_
    exact kk _ _ _ _ _ _ _ _ _ _ _ (hI) hS
  · have e := hI.2.1 j hj
    rcases ix2 v2 (n := 8) (by decide) with hk0 | ⟨k, hk, rfl⟩
    · refine lv_aload_n hx hb dL_law_366 rfl (lv_at hl 2 rfl) ?_
      refine lv_aload_n hx hb dL_law_367 rfl (lv_at hl 1 rfl) ?_
      refine lv_iload_n hx hb dL_law_368 rfl (lv_at hl 0 rfl) ?_
      refine lv_iconst (v := 1) hx hb dL_law_369 (by decide) ?_
      refine lv_iadd hx hb dL_law_370 ?_
      refine m_sld hx hb hX hbl hbA hS (i0 + 1) (nI_1 i0) (by omega) hL h1 dL_law_371 ?_
      refine lv_aload_n hx hb dL_law_372 rfl (lv_at hl 1 rfl) ?_
      refine lv_iload_n hx hb dL_law_373 rfl (lv_at hl 0 rfl) ?_
      refine lv_iconst (v := 2) hx hb dL_law_374 (by decide) ?_
      refine lv_iadd hx hb dL_law_375 ?_
      refine m_sld hx hb hX hbl hbA hS (i0 + 2) (nI_add i0 2) (by omega) hL h2 dL_law_376 ?_
      refine m_ci (m_runV (n := 2) (rest := []) ⟨hx, hb, hml, hown, hG⟩ (c_told_bad l X (mq X B n wm dy tl g' hs t) A n ad g wm dy tl hs t j 7 hn hI.2.2.1 hj v2 (by decide) (out8 hk0)) kw_457 kw_458 kw_459 kw_18 kw_460 (by decide +kernel) ⟨by decide, by decide⟩ hF hz hS (q0 := 10) rfl rfl rfl hl.1 rfl (Nat.le_of_ble_eq_true rfl) dL_law_377 ⟨by show cells + 0 ≤ 600000; omega, by show slots + 0 ≤ 7302250; omega⟩) hS (fun r1 w1 H locs hw1 hS => ?_)
      obtain ⟨e1, rfl⟩ := hw1
      rw [wL] at hS
      refine lv_aload_n hx hb dL_law_380 rfl (lv_at hl 3 rfl) ?_
      refine lv_aload_n hx hb dL_law_381 rfl (lv_at hl 1 rfl) ?_
      refine lv_iload_n hx hb dL_law_382 rfl (lv_at hl 0 rfl) ?_
      refine lv_iconst (v := 1) hx hb dL_law_383 (by decide) ?_
      refine lv_iadd hx hb dL_law_384 ?_
      refine m_sld hx hb hX hbl hbA hS (i0 + 1) (nI_1 i0) (by omega) hL h1 dL_law_385 ?_
      refine lv_aload_n hx hb dL_law_386 rfl (lv_at hl 1 rfl) ?_
      refine lv_iload_n hx hb dL_law_387 rfl (lv_at hl 0 rfl) ?_
      refine lv_iconst (v := 2) hx hb dL_law_388 (by decide) ?_
      refine lv_iadd hx hb dL_law_389 ?_
      refine m_sld hx hb hX hbl hbA hS (i0 + 2) (nI_add i0 2) (by omega) hL h2 dL_law_390 ?_
      refine m_ci (m_runV (n := 2) (rest := [.int r1]) ⟨hx, hb, hml, hown, hG⟩ (M_told_bad l X B n wm dy tl g' hs (rs X A n ad g wm dy tl hs t) t j 6 hn hI.kq' hI.k0' hj v2 (by decide) (out8 hk0)) kw_610 kw_611 kw_612 kw_20 kw_613 (by decide +kernel) ⟨by decide, by decide⟩ hF hz hS (q0 := 0) rfl rfl rfl hl.1 rfl (Nat.le_of_ble_eq_true rfl) dL_law_391 ⟨by show cells + 0 + 0 ≤ 600000; omega, by show slots + 0 + 0 ≤ 7302250; omega⟩) hS (fun r2 w2 H locs hw2 hS => ?_)
      obtain ⟨e2, rfl⟩ := hw2
      rw [← wL] at hS
      refine lv_icmp_eq (tgt := 422) hx hb dL_law_394 (by decide) (fun c_1 => ?_) (fun c_1 => absurd (by rw [e1, e2]) c_1)
      refine W.widen (k := cells + 1) (n := slots + 8) (by show cells + 0 + 0 ≤ cells + 1; omega) (by show slots + 0 + 0 ≤ slots + 8; omega) ?_
      exact kk _ _ _ _ _ _ _ _ _ _ _ (hI) hS
    · refine lv_aload_n hx hb dL_law_366 rfl (lv_at hl 2 rfl) ?_
      refine lv_aload_n hx hb dL_law_367 rfl (lv_at hl 1 rfl) ?_
      refine lv_iload_n hx hb dL_law_368 rfl (lv_at hl 0 rfl) ?_
      refine lv_iconst (v := 1) hx hb dL_law_369 (by decide) ?_
      refine lv_iadd hx hb dL_law_370 ?_
      refine m_sld hx hb hX hbl hbA hS (i0 + 1) (nI_1 i0) (by omega) hL h1 dL_law_371 ?_
      refine lv_aload_n hx hb dL_law_372 rfl (lv_at hl 1 rfl) ?_
      refine lv_iload_n hx hb dL_law_373 rfl (lv_at hl 0 rfl) ?_
      refine lv_iconst (v := 2) hx hb dL_law_374 (by decide) ?_
      refine lv_iadd hx hb dL_law_375 ?_
      refine m_sld hx hb hX hbl hbA hS (i0 + 2) (nI_add i0 2) (by omega) hL h2 dL_law_376 ?_
      refine m_ci (m_runV (n := 2) (rest := []) ⟨hx, hb, hml, hown, hG⟩ (c_told l X (mq X B n wm dy tl g' hs t) A n ad g wm dy tl hs t j 7 hn hI.2.2.1 hj k hk (by decide)) kw_457 kw_458 kw_459 kw_18 kw_460 (by decide +kernel) ⟨by decide, by decide⟩ hF hz hS (q0 := 10) rfl rfl rfl hl.1 rfl (Nat.le_of_ble_eq_true rfl) dL_law_377 ⟨by show cells + 0 ≤ 600000; omega, by show slots + 0 ≤ 7302250; omega⟩) hS (fun r1 w1 H locs hw1 hS => ?_)
      obtain ⟨e1, rfl⟩ := hw1
      rw [wL] at hS
      refine lv_aload_n hx hb dL_law_380 rfl (lv_at hl 3 rfl) ?_
      refine lv_aload_n hx hb dL_law_381 rfl (lv_at hl 1 rfl) ?_
      refine lv_iload_n hx hb dL_law_382 rfl (lv_at hl 0 rfl) ?_
      refine lv_iconst (v := 1) hx hb dL_law_383 (by decide) ?_
      refine lv_iadd hx hb dL_law_384 ?_
      refine m_sld hx hb hX hbl hbA hS (i0 + 1) (nI_1 i0) (by omega) hL h1 dL_law_385 ?_
      refine lv_aload_n hx hb dL_law_386 rfl (lv_at hl 1 rfl) ?_
      refine lv_iload_n hx hb dL_law_387 rfl (lv_at hl 0 rfl) ?_
      refine lv_iconst (v := 2) hx hb dL_law_388 (by decide) ?_
      refine lv_iadd hx hb dL_law_389 ?_
      refine m_sld hx hb hX hbl hbA hS (i0 + 2) (nI_add i0 2) (by omega) hL h2 dL_law_390 ?_
      refine m_ci (m_runV (n := 2) (rest := [.int r1]) ⟨hx, hb, hml, hown, hG⟩ (M_told l X B n wm dy tl g' hs (rs X A n ad g wm dy tl hs t) t j 6 hn hI.kq' hI.k0' hj k hk (by decide)) kw_610 kw_611 kw_612 kw_20 kw_613 (by decide +kernel) ⟨by decide, by decide⟩ hF hz hS (q0 := 0) rfl rfl rfl hl.1 rfl (Nat.le_of_ble_eq_true rfl) dL_law_391 ⟨by show cells + 0 + 0 ≤ 600000; omega, by show slots + 0 + 0 ≤ 7302250; omega⟩) hS (fun r2 w2 H locs hw2 hS => ?_)
      obtain ⟨e2, rfl⟩ := hw2
      rw [← wL] at hS
      refine lv_icmp_eq (tgt := 422) hx hb dL_law_394 (by decide) (fun c_1 => ?_) (fun c_1 => absurd (by rw [e1, e2]; exact toldV_eq e k) c_1)
      refine W.widen (k := cells + 1) (n := slots + 8) (by show cells + 0 + 0 ≤ cells + 1; omega) (by show slots + 0 + 0 ≤ slots + 8; omega) ?_
      exact kk _ _ _ _ _ _ _ _ _ _ _ (hI) hS
set_option maxHeartbeats 4000000 in
set_option maxRecDepth 100000 in
theorem lc_count {p : Program} {l : Launch} {e : Env} {s : State} {m : MethodId} {below : List Frame} {meth : Method} {c : Code} {X : Cx} {b L : Nat} {xs : Nat → Int32} {A B : Nat → Nat} {n : Nat} {ad : Nat → Nat} {g g' : Nat → Rc} {wm dy tl : Int32} {hs : Nat → Int32} {t : Tr} {H : Heap} {locs : List Loc} {cells slots i0 : Nat} {Q : State → Prop} {ls : Array Slot} (lc : LC p s m c X b L xs) (hI : Inv n g g' dy t) (hi : i0 + 4 ≤ L) (hc : cells ≤ 1000) (hsl : slots ≤ 10000) (hS : mS X s (lW X A B n ad g g' wm dy tl hs t) H locs) (hl : lv_has ls 4 [(3, .int (nI i0)), (0, .ref b), (1, .ref (A 0)), (2, .ref (B 0))]) (kk : ∀ (n : Nat) (ad : Nat → Nat) (g g' : Nat → Rc) (wm dy tl : Int32) (hs : Nat → Int32) (t : Tr) (H : Heap) (locs : List Loc), Inv n g g' dy t → mS X s (lW X A B n ad g g' wm dy tl hs t) H locs → W p l e room_1 s m #[Value.ref b] below meth c H locs (cells + 1) (slots + 8) Q (F0 m 422 ls [])) : W p l e room_1 s m #[Value.ref b] below meth c H locs cells slots Q (F0 m 399 ls []) := by
  obtain ⟨hx, hb, hml, hown, hG, hF, hz, hX, hbl, hbA, hL⟩ := lc
  obtain ⟨v1, h1⟩ : ∃ v, xs (i0 + 1) = v := ⟨_, rfl⟩
  have hn := hI.1
  rcases ix2 v1 (n := 8) (by decide) with hk0 | ⟨k, hk, rfl⟩
  · refine lv_aload_n hx hb dL_law_399 rfl (lv_at hl 2 rfl) ?_
    refine lv_aload_n hx hb dL_law_400 rfl (lv_at hl 1 rfl) ?_
    refine lv_iload_n hx hb dL_law_401 rfl (lv_at hl 0 rfl) ?_
    refine lv_iconst (v := 1) hx hb dL_law_402 (by decide) ?_
    refine lv_iadd hx hb dL_law_403 ?_
    refine m_sld hx hb hX hbl hbA hS (i0 + 1) (nI_1 i0) (by omega) hL h1 dL_law_404 ?_
    refine m_ci (m_runV (n := 1) (rest := []) ⟨hx, hb, hml, hown, hG⟩ (c_count_bad l X (mq X B n wm dy tl g' hs t) A n ad g wm dy tl hs t v1 7 (out8 hk0)) kw_461 kw_462 kw_463 kw_18 kw_464 (by decide +kernel) ⟨by decide, by decide⟩ hF hz hS (q0 := 10) rfl rfl rfl hl.1 rfl (Nat.le_of_ble_eq_true rfl) dL_law_405 ⟨by show cells + 0 ≤ 600000; omega, by show slots + 0 ≤ 7302250; omega⟩) hS (fun r1 w1 H locs hw1 hS => ?_)
    obtain ⟨e1, rfl⟩ := hw1
    rw [wL] at hS
    refine lv_aload_n hx hb dL_law_408 rfl (lv_at hl 3 rfl) ?_
    refine lv_aload_n hx hb dL_law_409 rfl (lv_at hl 1 rfl) ?_
    refine lv_iload_n hx hb dL_law_410 rfl (lv_at hl 0 rfl) ?_
    refine lv_iconst (v := 1) hx hb dL_law_411 (by decide) ?_
    refine lv_iadd hx hb dL_law_412 ?_
    refine m_sld hx hb hX hbl hbA hS (i0 + 1) (nI_1 i0) (by omega) hL h1 dL_law_413 ?_
    refine m_ci (m_runV (n := 1) (rest := [.int r1]) ⟨hx, hb, hml, hown, hG⟩ (M_count_bad l X B n wm dy tl g' hs (rs X A n ad g wm dy tl hs t) t v1 6 (by decide) (out8 hk0)) kw_614 kw_615 kw_616 kw_20 kw_617 (by decide +kernel) ⟨by decide, by decide⟩ hF hz hS (q0 := 0) rfl rfl rfl hl.1 rfl (Nat.le_of_ble_eq_true rfl) dL_law_414 ⟨by show cells + 0 + 0 ≤ 600000; omega, by show slots + 0 + 0 ≤ 7302250; omega⟩) hS (fun r2 w2 H locs hw2 hS => ?_)
    obtain ⟨e2, rfl⟩ := hw2
    rw [← wL] at hS
    refine lv_icmp_eq (tgt := 422) hx hb dL_law_417 (by decide) (fun c_1 => ?_) (fun c_1 => absurd (by rw [e1, e2]) c_1)
    refine W.widen (k := cells + 1) (n := slots + 8) (by show cells + 0 + 0 ≤ cells + 1; omega) (by show slots + 0 + 0 ≤ slots + 8; omega) ?_
    exact kk _ _ _ _ _ _ _ _ _ _ _ (hI) hS
  · refine lv_aload_n hx hb dL_law_399 rfl (lv_at hl 2 rfl) ?_
    refine lv_aload_n hx hb dL_law_400 rfl (lv_at hl 1 rfl) ?_
    refine lv_iload_n hx hb dL_law_401 rfl (lv_at hl 0 rfl) ?_
    refine lv_iconst (v := 1) hx hb dL_law_402 (by decide) ?_
    refine lv_iadd hx hb dL_law_403 ?_
    refine m_sld hx hb hX hbl hbA hS (i0 + 1) (nI_1 i0) (by omega) hL h1 dL_law_404 ?_
    refine m_ci (m_runV (n := 1) (rest := []) ⟨hx, hb, hml, hown, hG⟩ (c_count l X (mq X B n wm dy tl g' hs t) A n ad g wm dy tl hs t k 7 hk (by decide) hn hI.2.2.1) kw_461 kw_462 kw_463 kw_18 kw_464 (by decide +kernel) ⟨by decide, by decide⟩ hF hz hS (q0 := 10) rfl rfl rfl hl.1 rfl (Nat.le_of_ble_eq_true rfl) dL_law_405 ⟨by show cells + 0 ≤ 600000; omega, by show slots + 0 ≤ 7302250; omega⟩) hS (fun r1 w1 H locs hw1 hS => ?_)
    obtain ⟨e1, rfl⟩ := hw1
    rw [wL] at hS
    refine lv_aload_n hx hb dL_law_408 rfl (lv_at hl 3 rfl) ?_
    refine lv_aload_n hx hb dL_law_409 rfl (lv_at hl 1 rfl) ?_
    refine lv_iload_n hx hb dL_law_410 rfl (lv_at hl 0 rfl) ?_
    refine lv_iconst (v := 1) hx hb dL_law_411 (by decide) ?_
    refine lv_iadd hx hb dL_law_412 ?_
    refine m_sld hx hb hX hbl hbA hS (i0 + 1) (nI_1 i0) (by omega) hL h1 dL_law_413 ?_
    refine m_ci (m_runV (n := 1) (rest := [.int r1]) ⟨hx, hb, hml, hown, hG⟩ (M_count l X B n wm dy tl g' hs (rs X A n ad g wm dy tl hs t) t k 6 hk (by decide) hn) kw_614 kw_615 kw_616 kw_20 kw_617 (by decide +kernel) ⟨by decide, by decide⟩ hF hz hS (q0 := 0) rfl rfl rfl hl.1 rfl (Nat.le_of_ble_eq_true rfl) dL_law_414 ⟨by show cells + 0 + 0 ≤ 600000; omega, by show slots + 0 + 0 ≤ 7302250; omega⟩) hS (fun r2 w2 H locs hw2 hS => ?_)
    obtain ⟨e2, rfl⟩ := hw2
    rw [← wL] at hS
    refine lv_icmp_eq (tgt := 422) hx hb dL_law_417 (by decide) (fun c_1 => ?_) (fun c_1 => absurd (by rw [e1, e2]; exact countV_eq hI.2.1 k) c_1)
    refine W.widen (k := cells + 1) (n := slots + 8) (by show cells + 0 + 0 ≤ cells + 1; omega) (by show slots + 0 + 0 ≤ slots + 8; omega) ?_
    exact kk _ _ _ _ _ _ _ _ _ _ _ (hI) hS
