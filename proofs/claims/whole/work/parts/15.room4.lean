/-- the first j batches changed by F -/
def gup (F : Rc → Rc) (g : Nat → Rc) (j : Nat) : Nat → Rc := fun i => if i < j then F (g i) else g i
theorem gup_0 (F : Rc → Rc) (g : Nat → Rc) : gup F g 0 = g := by funext i; simp [gup]
theorem gup_at (F : Rc → Rc) (g : Nat → Rc) (j : Nat) : gup F g j j = g j := by simp [gup]
theorem gup_lt {F : Rc → Rc} {g : Nat → Rc} {i j : Nat} (h : i < j) : gup F g j i = F (g i) := by simp [gup, h]
theorem gup_ge {F : Rc → Rc} {g : Nat → Rc} {i j : Nat} (h : j ≤ i) : gup F g j i = g i := by simp [gup, Nat.not_lt.mpr h]
theorem gup_s (F : Rc → Rc) (g : Nat → Rc) (j : Nat) : va_up (gup F g j) j (F (g j)) = gup F g (j + 1) := by
  funext i
  by_cases h : i = j
  · subst h; rw [va_up_self, gup_lt (Nat.lt_succ_self i)]
  · rw [va_up_ne _ _ h]
    by_cases h2 : i < j
    · rw [gup_lt h2, gup_lt (by omega)]
    · rw [gup_ge (by omega), gup_ge (by omega)]
theorem gup_skip {F : Rc → Rc} {g : Nat → Rc} {j : Nat} (h : F (g j) = g j) : gup F g (j + 1) = gup F g j := by
  rw [← gup_s, h]
  conv => lhs; rw [← gup_at F g j]
  rw [va_up_same]
theorem stepR_f {w : Int32} {rc : Rc} {f : Nat} (h3 : f ≠ 3) (h4 : f ≠ 4) : stepR w rc f = rc f := by
  unfold stepR
  by_cases h : rc 4 + riseV (kd rc) w ≤ 2 * needV (kd rc) (rc 1)
  · rw [if_pos h, va_up_ne _ _ h4]
  · rw [if_neg h, va_up_ne _ _ h3, va_up_ne _ _ h4]
theorem stepB_f {w : Int32} {rc : Rc} {f : Nat} (h3 : f ≠ 3) (h4 : f ≠ 5) : stepB w rc f = rc f := by
  unfold stepB
  by_cases h : rc 5 + brownV (kd rc) w ≤ 100
  · rw [if_pos h, va_up_ne _ _ h4]
  · rw [if_neg h, va_up_ne _ _ h3, va_up_ne _ _ h4]
theorem riseN_f {w : Int32} {f : Nat} (h3 : f ≠ 3) (h4 : f ≠ 4) : ∀ (n : Nat) (rc : Rc), riseN w n rc f = rc f
  | 0, _ => rfl
  | n + 1, rc => by
    by_cases h : rc 3 = 0
    · rw [riseN, if_pos h, riseN_f h3 h4 n, stepR_f h3 h4]
    · rw [riseN_0 h]
theorem brownN_f {w : Int32} {f : Nat} (h3 : f ≠ 3) (h4 : f ≠ 5) : ∀ (n : Nat) (rc : Rc), brownN w n rc f = rc f
  | 0, _ => rfl
  | n + 1, rc => by
    by_cases h : rc 3 = 1
    · rw [brownN, if_pos h, brownN_f h3 h4 n, stepB_f h3 h4]
    · rw [brownN_0 h]
/-- N minutes of one batch -/
def minR (w : Int32) (hs : Nat → Int32) (N : Nat) (rc : Rc) : Rc := if rc 3 = 0 then riseN w N rc else if rc 3 = 1 then brownN (hs (rc 6).toNatClampNeg) N rc else rc
theorem minR_f {w : Int32} {hs : Nat → Int32} {N f : Nat} {rc : Rc} (h3 : f ≠ 3) (h4 : f ≠ 4) (h5 : f ≠ 5) : minR w hs N rc f = rc f := by
  unfold minR
  by_cases h : rc 3 = 0
  · rw [if_pos h, riseN_f h3 h4]
  · rw [if_neg h]
    by_cases h1 : rc 3 = 1
    · rw [if_pos h1, brownN_f h3 h5]
    · rw [if_neg h1]
theorem minR_kd {w : Int32} {hs : Nat → Int32} {N : Nat} {rc : Rc} : kd (minR w hs N rc) = kd rc := by
  unfold kd; rw [minR_f (by decide) (by decide) (by decide)]
/-- for how many days one keeps -/
def keepK (rc : Rc) : Int32 := if 2 ≤ kd rc ∧ kd rc < 5 then keepsV (kd rc) (rc 1) else 1
def dayR (dy : Int32) (rc : Rc) : Rc := if rc 3 = 2 then if dy - rc 7 < keepK rc then rc else va_up rc 3 4 else rc
def dayC (dy : Int32) (g : Nat → Rc) : Nat → Int32
  | 0 => 0
  | n + 1 => if g n 3 = 2 then if dy - g n 7 < keepK (g n) then dayC dy g n else dayC dy g n + 1 else dayC dy g n
theorem dayR_f {dy : Int32} {rc : Rc} {f : Nat} (h3 : f ≠ 3) : dayR dy rc f = rc f := by
  unfold dayR
  by_cases h : rc 3 = 2
  · rw [if_pos h]
    by_cases h2 : dy - rc 7 < keepK rc
    · rw [if_pos h2]
    · rw [if_neg h2, va_up_ne _ _ h3]
  · rw [if_neg h]
theorem dayR_kd {dy : Int32} {rc : Rc} : kd (dayR dy rc) = kd rc := by
  unfold kd; rw [dayR_f (by decide)]
theorem gup_kd {F : Rc → Rc} {g : Nat → Rc} {n k : Nat} (hF : ∀ rc, kd (F rc) = kd rc) (h : ∀ i, i < n → kd (g i) < 7) : ∀ i, i < n → kd (gup F g k i) < 7 := fun i hi => by
  by_cases h2 : i < k
  · rw [gup_lt h2, hF]; exact h i hi
  · rw [gup_ge (by omega)]; exact h i hi
theorem fam_riseFor (k : Nat) (h2 : k < 7) : Cond.selects (RD k) yX2_riseFor yX2_riseFor ∈ G ∧ Cond.instanceMethod yX2_riseFor ∈ G ∧ Cond.initialized (yX2_riseFor).cls ∈ G ∧ Cond.code yX2_riseFor cX2_riseFor 6 none ∈ G ∧ 6 ≤ 8 :=
  match k, h2 with
  | 0, _ => ⟨kw_407, kw_406, kw_21, kw_415, by decide⟩
  | 1, _ => ⟨kw_414, kw_406, kw_21, kw_415, by decide⟩
  | 2, _ => ⟨kw_412, kw_406, kw_21, kw_415, by decide⟩
  | 3, _ => ⟨kw_411, kw_406, kw_21, kw_415, by decide⟩
  | 4, _ => ⟨kw_409, kw_406, kw_21, kw_415, by decide⟩
  | 5, _ => ⟨kw_413, kw_406, kw_21, kw_415, by decide⟩
  | 6, _ => ⟨kw_410, kw_406, kw_21, kw_415, by decide⟩
theorem fam_brownFor (k : Nat) (h2 : k < 7) : Cond.selects (RD k) yX2_brownFor yX2_brownFor ∈ G ∧ Cond.instanceMethod yX2_brownFor ∈ G ∧ Cond.initialized (yX2_brownFor).cls ∈ G ∧ Cond.code yX2_brownFor cX2_brownFor 5 none ∈ G ∧ 5 ≤ 8 :=
  match k, h2 with
  | 0, _ => ⟨kw_424, kw_423, kw_21, kw_432, by decide⟩
  | 1, _ => ⟨kw_431, kw_423, kw_21, kw_432, by decide⟩
  | 2, _ => ⟨kw_429, kw_423, kw_21, kw_432, by decide⟩
  | 3, _ => ⟨kw_428, kw_423, kw_21, kw_432, by decide⟩
  | 4, _ => ⟨kw_426, kw_423, kw_21, kw_432, by decide⟩
  | 5, _ => ⟨kw_430, kw_423, kw_21, kw_432, by decide⟩
  | 6, _ => ⟨kw_427, kw_423, kw_21, kw_432, by decide⟩
set_option maxHeartbeats 4000000 in
set_option maxRecDepth 100000 in
theorem mt_end {p : Program} {l : Launch} {e : Env} {R : Room} {s : State} {m : MethodId} {args : Array Value} {below : List Frame} {meth : Method} {c : Code} {X : Cx} {q : Nat → Nat × va_E} {A : Nat → Nat} {n : Nat} {ad : Nat → Nat} {g : Nat → Rc} {wm dy tl : Int32} {hs : Nat → Int32} {t : Tr} {H : Heap} {locs : List Loc} {x2 : Int32} {P : Int32 → va_W → Prop} {ls : Array Slot} (hn : n ≤ 40) (hkd : ∀ i, i < n → kd (g i) < 7) (hx : p.tables.exec = Jvm.exec) (hb : c.code = cX8_minutes) (hr : meth.sig.returnType = some .int) (hml : c.maxLocals = 7) (hown : s.vm.findClass RX8 = some m.cls) (hG : ∀ w ∈ G, w.before args s = true) (hlk : meth.locks = false) (hF : mF X s) (hz : X.2.2.2 ≤ s.heap.size) (hR : (rl 0).frames + 1 ≤ R.frames ∧ 8 + (7 + 11) + (rl 0).locals ≤ R.locals) (hS : mS X s (wT X (kC q A n ad g wm dy tl hs) false t) H locs) (hl : lv_has ls 7 [(0, .ref (A 0)), (2, .int x2)]) (hP : P (cnt g 4 n - x2) (wT X (kC q A n ad g wm dy tl hs) false t)) : W p l e R s m args below meth c H locs 0 0 (MQ below (va_Qi P (fun w t => mH X w t.heap) (xA X)) args s 0 0 (xA X)) (F0 m 104 ls []) := by
  refine lv_aload_n hx hb dX8_minutes_104 rfl (lv_at hl 0 rfl) ?_
  refine lv_iconst (v := 4) hx hb dX8_minutes_105 (by decide) ?_
  refine m_ci (m_runV (n := 1) (rest := []) ⟨hx, hb, hml, hown, hG⟩ (c_howMany l X q A n ad g wm dy tl hs t 4 0 hn hkd) kw_401 kw_403 kw_3 kw_18 kw_404 (by decide +kernel) hR hF hz hS (q0 := 10) rfl rfl rfl hl.1 rfl (Nat.le_of_ble_eq_true rfl) dX8_minutes_106 ⟨Nat.zero_le _, Nat.zero_le _⟩) hS (fun r_1 w1 H locs hw1 hS => ?_)
  obtain ⟨rfl, rfl⟩ := hw1
  refine lv_iload_n hx hb dX8_minutes_109 rfl (lv_at hl 1 rfl) ?_
  refine lv_isub hx hb dX8_minutes_110 ?_
  exact m_iret hx hb hr hlk hS (hP) (Nat.le_refl 0) (Nat.le_refl 0) dX8_minutes_111
theorem kC_atg {X : Cx} {q : Nat → Nat × va_E} {A : Nat → Nat} {n : Nat} {ad : Nat → Nat} {g : Nat → Rc} {wm dy tl : Int32} {hs : Nat → Int32} {r : Bool} {t : Tr} {j : Nat} {F : Rc → Rc} (h : j < n) : (wT X (kC q A n ad (gup F g j) wm dy tl hs) r t)[j + 15]? = some (ad j, dE (A 3) (g j)) := by
  rw [kC_at h, gup_at]
theorem kC_hig {q : Nat → Nat × va_E} {A : Nat → Nat} {n : Nat} {ad : Nat → Nat} {g : Nat → Rc} {wm dy tl : Int32} {hs : Nat → Int32} {j : Nat} {F : Rc → Rc} (h : j < n) : (kP (kC q A n ad (gup F g j) wm dy tl hs))[j]? = some (ad j, dE (kA (kC q A n ad (gup F g j) wm dy tl hs) 3) (g j)) := by
  rw [kC_hi h, gup_at]
theorem kC_setg {q : Nat → Nat × va_E} {A : Nat → Nat} {n : Nat} {ad : Nat → Nat} {g : Nat → Rc} {wm dy tl : Int32} {hs : Nat → Int32} {j : Nat} {F : Rc → Rc} {rc : Rc} (h : j < n) (e : F (g j) = rc) : kset (kC q A n ad (gup F g j) wm dy tl hs) j (ad j, dE (A 3) rc) = kC q A n ad (gup F g (j + 1)) wm dy tl hs := by
  rw [kC_set h, ← e, gup_s]
theorem wC_setg {X : Cx} {q : Nat → Nat × va_E} {A : Nat → Nat} {n : Nat} {ad : Nat → Nat} {g : Nat → Rc} {wm dy tl : Int32} {hs : Nat → Int32} {r : Bool} {t : Tr} {j : Nat} {F : Rc → Rc} {rc : Rc} (h : j < n) (e : F (g j) = rc) : (wT X (kC q A n ad (gup F g j) wm dy tl hs) r t).set (j + 15) (ad j, dE (A 3) rc) = wT X (kC q A n ad (gup F g (j + 1)) wm dy tl hs) r t := by
  rw [wT_set, kC_setg h e]
set_option maxHeartbeats 4000000 in
set_option maxRecDepth 100000 in
theorem mt_loop {p : Program} {l : Launch} {e : Env} {R : Room} {s : State} {m : MethodId} {args : Array Value} {below : List Frame} {meth : Method} {c : Code} {X : Cx} {q : Nat → Nat × va_E} {A : Nat → Nat} {n : Nat} {ad : Nat → Nat} {g : Nat → Rc} {wm dy tl : Int32} {hs : Nat → Int32} {t : Tr} {x2 : Int32} {N : Nat} {P : Int32 → va_W → Prop} (hN : N < 1000) (hn : n ≤ 40) (hkd : ∀ i, i < n → kd (g i) < 7) (hov : ∀ i, i < n → ∃ o, o < 3 ∧ g i 6 = nI o) (hx : p.tables.exec = Jvm.exec) (hb : c.code = cX8_minutes) (hr : meth.sig.returnType = some .int) (hml : c.maxLocals = 7) (hown : s.vm.findClass RX8 = some m.cls) (hG : ∀ w ∈ G, w.before args s = true) (hlk : meth.locks = false) (hF : mF X s) (hz : X.2.2.2 ≤ s.heap.size) (hR : (rl 0).frames + 1 ≤ R.frames ∧ 8 + (7 + 11) + (rl 0).locals ≤ R.locals) (hR2 : (rl 5).frames + 1 ≤ R.frames ∧ ∀ k, k ≤ 8 → 8 + (k + 11) + (rl 5).locals ≤ R.locals) (hP : P (cnt (gup (minR wm hs N) g n) 4 n - x2) (wT X (kC q A n ad (gup (minR wm hs N) g n) wm dy tl hs) false t)) : ∀ (d j : Nat) (x5 : Int32) (ls : Array Slot) (H : Heap) (locs : List Loc), x5 = nI j → j + d = 40 → mS X s (wT X (kC q A n ad (gup (minR wm hs N) g (min j n)) wm dy tl hs) false t) H locs → lv_has ls 7 [(5, .int x5), (0, .ref (A 0)), (1, .int (nI N)), (2, .int x2), (3, .ref (A 1)), (4, .int (nI 40))] → W p l e R s m args below meth c H locs 0 0 (MQ below (va_Qi P (fun w t => mH X w t.heap) (xA X)) args s 0 0 (xA X)) (F0 m 32 ls []) := by
  intro d
  induction d with
  | zero =>
    intro j x5 ls H locs ex hd hS hl
    have hj : j = 40 := by omega
    subst hj
    rw [Nat.min_eq_right hn] at hS
    refine lv_iload hx hb dX8_minutes_32 (lv_at hl 0 rfl) ?_
    refine lv_iload hx hb dX8_minutes_34 (lv_at hl 5 rfl) ?_
    refine lv_icmp_ge (tgt := 104) hx hb dX8_minutes_36 (by decide) (fun c_1 => ?_) (fun c_1 => absurd (by rw [ex]; exact Int32.le_refl _) c_1)
    exact mt_end hn (gup_kd (fun _ => minR_kd) hkd) hx hb hr hml hown hG hlk hF hz hR hS (lv_sub hl [1, 3] rfl) hP
  | succ d ih =>
    intro j x5 ls H locs ex hd hS hl
    subst ex
    refine lv_iload hx hb dX8_minutes_32 (lv_at hl 0 rfl) ?_
    refine lv_iload hx hb dX8_minutes_34 (lv_at hl 5 rfl) ?_
    refine lv_icmp_ge (tgt := 104) hx hb dX8_minutes_36 (by decide) (fun c_2 => absurd c_2 (nI_ge (by omega) (by decide))) (fun c_2 => ?_)
    refine lv_aload_n hx hb dX8_minutes_39 rfl (lv_at hl 4 rfl) ?_
    refine lv_iload hx hb dX8_minutes_40 (lv_at hl 0 rfl) ?_
    by_cases hj : j < n
    · rw [Nat.min_eq_left (Nat.le_of_lt hj)] at hS
      refine m_aaldS hx hb hF hS (11) rfl (j) rfl (by omega) (by decide) (bfn_in hj) dX8_minutes_42 ?_
      refine lv_astore (lv' := [(6, .ref (ad j)), (5, .int (nI j)), (0, .ref (A 0)), (1, .int (nI N)), (2, .int x2), (3, .ref (A 1)), (4, .int (nI 40))]) hx hb dX8_minutes_43 hl (by decide) rfl (fun ls hl => ?_)
      refine lv_aload hx hb dX8_minutes_45 (lv_at hl 0 rfl) ?_
      refine lv_ifnonnull (tgt := 53) hx hb dX8_minutes_47 (by decide) ?_
      refine lv_aload hx hb dX8_minutes_53 (lv_at hl 0 rfl) ?_
      refine m_get (v := .int (g j 3)) hx hb hG hown hF hS (j + 15) (kC_atg hj) (kd_cls (hkd j hj)).1 (kd_cls (hkd j hj)).2 3 (by decide) kw_116 (fun _ h9 => h9) rfl dX8_minutes_55 ?_
      refine lv_if_ne (tgt := 74) hx hb dX8_minutes_58 (by decide) (fun c_3 => ?_) (fun c_3 => ?_)
      · refine lv_aload hx hb dX8_minutes_74 (lv_at hl 0 rfl) ?_
        refine m_get (v := .int (g j 3)) hx hb hG hown hF hS (j + 15) (kC_atg hj) (kd_cls (hkd j hj)).1 (kd_cls (hkd j hj)).2 3 (by decide) kw_116 (fun _ h9 => h9) rfl dX8_minutes_76 ?_
        refine lv_iconst (v := 1) hx hb dX8_minutes_79 (by decide) ?_
        refine lv_icmp_ne (tgt := 98) hx hb dX8_minutes_80 (by decide) (fun c_4 => ?_) (fun c_4 => ?_)
        · obtain ⟨x_5, ex_5⟩ : ∃ y : Int32, y = (nI j) + 1 := ⟨_, rfl⟩
          refine lv_iinc (v := x_5) (lv' := [(5, .int x_5), (6, .ref (ad j)), (0, .ref (A 0)), (1, .int (nI N)), (2, .int x2), (3, .ref (A 1)), (4, .int (nI 40))]) hx hb dX8_minutes_98 hl (k := 1) rfl (by rw [ex_5]; rfl) (by decide) rfl (fun ls hl => ?_)
          refine lv_goto (tgt := 32) hx hb dX8_minutes_101 (by decide) ?_
          exact ih (j + 1) x_5 ls _ _ (by rw [ex_5]; exact nI_1 j) (by omega) (by rw [Nat.min_eq_left hj]; rw [gup_skip (by unfold minR; rw [if_neg c_3, if_neg c_4])]; exact hS) (lv_sub hl [0, 2, 3, 4, 5, 6] rfl)
        · obtain ⟨o, ho, eo⟩ := hov j hj
          refine lv_aload hx hb dX8_minutes_83 (lv_at hl 0 rfl) ?_
          refine lv_iload_n hx hb dX8_minutes_85 rfl (lv_at hl 3 rfl) ?_
          refine lv_aload_n hx hb dX8_minutes_86 rfl (lv_at hl 2 rfl) ?_
          refine lv_aload hx hb dX8_minutes_87 (lv_at hl 0 rfl) ?_
          refine m_get (v := .int (g j 6)) hx hb hG hown hF hS (j + 15) (kC_atg hj) (kd_cls (hkd j hj)).1 (kd_cls (hkd j hj)).2 6 (by decide) kw_121 (fun _ h9 => h9) rfl dX8_minutes_89 ?_
          rw [eo]
          refine m_ci (m_runV (n := 1) (rest := [.int (nI N), .ref (ad j)]) ⟨hx, hb, hml, hown, hG⟩ (c_heatOf l X q A n ad (gup (minR wm hs N) g j) wm dy tl hs t o 1 ho (by decide)) kw_418 kw_420 kw_4 kw_18 kw_421 (by decide +kernel) ⟨Nat.le_trans (by decide) hR2.1, Nat.le_trans (by decide) (hR2.2 2 (by decide))⟩ hF hz hS (q0 := 10) rfl rfl rfl hl.1 rfl (Nat.le_of_ble_eq_true rfl) dX8_minutes_92 ⟨Nat.zero_le _, Nat.zero_le _⟩) hS (fun r_5 w2 H locs hw2 hS => ?_)
          obtain ⟨rfl, rfl⟩ := hw2
          refine m_cv (m_runU (x := yX2_brownFor) (owner := "DoughRoom$Dough") (n := 2) (rest := []) ⟨hx, hb, hml, hown, hG⟩ (c_brownFor l X (kC q A n ad (gup (minR wm hs N) g j) wm dy tl hs) t (ad j) j N (g j) (hs o) 5 (kC_hig hj) (hkd j hj) hN (by decide)) kw_422 kw_425 kw_423 kw_432 (fam_brownFor (kd (g j)) (hkd j hj)).2.1 (fam_brownFor (kd (g j)) (hkd j hj)).1 (fam_brownFor (kd (g j)) (hkd j hj)).2.2.1 (fam_brownFor (kd (g j)) (hkd j hj)).2.2.2.1 (by decide +kernel) ⟨hR2.1, hR2.2 _ (by decide)⟩ hF hz hS (q0 := j + 15) (kC_atg hj) (kd_cls (hkd j hj)).1 rfl hl.1 rfl (Nat.le_of_ble_eq_true rfl) dX8_minutes_95 ⟨Nat.zero_le _, Nat.zero_le _⟩) hS (fun w3 H locs hw3 hS => ?_)
          subst hw3
          have hS := hS
          obtain ⟨x_6, ex_6⟩ : ∃ y : Int32, y = (nI j) + 1 := ⟨_, rfl⟩
          refine lv_iinc (v := x_6) (lv' := [(5, .int x_6), (6, .ref (ad j)), (0, .ref (A 0)), (1, .int (nI N)), (2, .int x2), (3, .ref (A 1)), (4, .int (nI 40))]) hx hb dX8_minutes_98 hl (k := 1) rfl (by rw [ex_6]; rfl) (by decide) rfl (fun ls hl => ?_)
          refine lv_goto (tgt := 32) hx hb dX8_minutes_101 (by decide) ?_
          exact ih (j + 1) x_6 ls _ _ (by rw [ex_6]; exact nI_1 j) (by omega) (by rw [Nat.min_eq_left hj]; rw [← kC_setg (rc := brownN (hs o) N (g j)) hj (by unfold minR; rw [if_neg c_3, if_pos c_4, eo, nI_clamp (by omega)])]; exact hS) (lv_sub hl [0, 2, 3, 4, 5, 6] rfl)
      · refine lv_aload hx hb dX8_minutes_61 (lv_at hl 0 rfl) ?_
        refine lv_iload_n hx hb dX8_minutes_63 rfl (lv_at hl 3 rfl) ?_
        refine lv_aload_n hx hb dX8_minutes_64 rfl (lv_at hl 2 rfl) ?_
        refine m_get (v := .int wm) hx hb hG hown hF hS (10) rfl rfl iG_8 4 (by decide) kw_60 (fun _ h9 => h9) rfl dX8_minutes_65 ?_
        refine m_cv (m_runU (x := yX2_riseFor) (owner := "DoughRoom$Dough") (n := 2) (rest := []) ⟨hx, hb, hml, hown, hG⟩ (c_riseFor l X (kC q A n ad (gup (minR wm hs N) g j) wm dy tl hs) t (ad j) j N (g j) wm 5 (kC_hig hj) (hkd j hj) hN (by decide)) kw_405 kw_408 kw_406 kw_415 (fam_riseFor (kd (g j)) (hkd j hj)).2.1 (fam_riseFor (kd (g j)) (hkd j hj)).1 (fam_riseFor (kd (g j)) (hkd j hj)).2.2.1 (fam_riseFor (kd (g j)) (hkd j hj)).2.2.2.1 (by decide +kernel) ⟨hR2.1, hR2.2 _ (by decide)⟩ hF hz hS (q0 := j + 15) (kC_atg hj) (kd_cls (hkd j hj)).1 rfl hl.1 rfl (Nat.le_of_ble_eq_true rfl) dX8_minutes_68 ⟨Nat.zero_le _, Nat.zero_le _⟩) hS (fun w3 H locs hw3 hS => ?_)
        subst hw3
        refine lv_goto (tgt := 98) hx hb dX8_minutes_71 (by decide) ?_
        obtain ⟨x_4, ex_4⟩ : ∃ y : Int32, y = (nI j) + 1 := ⟨_, rfl⟩
        refine lv_iinc (v := x_4) (lv' := [(5, .int x_4), (6, .ref (ad j)), (0, .ref (A 0)), (1, .int (nI N)), (2, .int x2), (3, .ref (A 1)), (4, .int (nI 40))]) hx hb dX8_minutes_98 hl (k := 1) rfl (by rw [ex_4]; rfl) (by decide) rfl (fun ls hl => ?_)
        refine lv_goto (tgt := 32) hx hb dX8_minutes_101 (by decide) ?_
        exact ih (j + 1) x_4 ls _ _ (by rw [ex_4]; exact nI_1 j) (by omega) (by rw [Nat.min_eq_left hj]; rw [← kC_setg (rc := riseN wm N (g j)) hj (by unfold minR; rw [if_pos c_3])]; exact hS) (lv_sub hl [0, 2, 3, 4, 5, 6] rfl)
    · rw [Nat.min_eq_right (by omega)] at hS
      refine m_aaldN hx hb hF hS (11) rfl (j) rfl (by omega) (by decide) (bfn_out (by omega)) dX8_minutes_42 ?_
      refine lv_astoreN (lv' := [(6, .null), (5, .int (nI j)), (0, .ref (A 0)), (1, .int (nI N)), (2, .int x2), (3, .ref (A 1)), (4, .int (nI 40))]) hx hb dX8_minutes_43 hl (by decide) rfl (fun ls hl => ?_)
      refine lv_aloadN hx hb dX8_minutes_45 (lv_at hl 0 rfl) ?_
      refine lv_ifnonnullN hx hb dX8_minutes_47 ?_
      refine lv_goto (tgt := 104) hx hb dX8_minutes_50 (by decide) ?_
      exact mt_end hn (gup_kd (fun _ => minR_kd) hkd) hx hb hr hml hown hG hlk hF hz hR hS (lv_sub hl [2, 4] rfl) hP
set_option maxHeartbeats 4000000 in
set_option maxRecDepth 100000 in
theorem c_minutes_bad (l : Launch) (X : Cx) (q : Nat → Nat × va_E) (A : Nat → Nat) (n : Nat) (ad : Nat → Nat) (g : Nat → Rc) (wm dy tl : Int32) (hs : Nat → Int32) (t : Tr) (N : Int32) (f : Nat) (hf : 1 ≤ f) (h0 : inB N 1 200 = 0) : cI l yX8_minutes cX8_minutes 7 (some .int) (rl f) X [.ref (A 0), .int N] (wT X (kC q A n ad g wm dy tl hs) false t) (fun r w => r = -2 ∧ w = wT X (kC q A n ad g wm dy tl hs) false t) := by
  refine met_start (by decide) (Nat.le_of_ble_eq_true rfl) ?_
  intro p e s m below meth c ls fx hS hl
  obtain ⟨hx, hb, hr, hml, hown, hG, hlk, hF, hz, hnm⟩ := fx
  have hown : s.vm.findClass RX8 = some m.cls := hown
  have hl : lv_has ls 7 [(0, .ref (A 0)), (1, .int N)] := hl
  refine lv_iload_n hx hb dX8_minutes_0 rfl (lv_at hl 1 rfl) ?_
  refine lv_iconst (v := 1) hx hb dX8_minutes_1 (by decide) ?_
  refine lv_sipush (v := 200) hx hb dX8_minutes_2 (by decide) ?_
  refine m_ci (m_runS (n := 3) (rest := []) ⟨hx, hb, hml, hown, hG⟩ (c_within l X (wT X (kC q A n ad g wm dy tl hs) false t) N 1 200 0) kw_82 kw_83 kw_18 kw_84 (by decide +kernel) (rl_ok (by omega) (by decide)) hF hz hS rfl hl.1 rfl (Nat.le_of_ble_eq_true rfl) dX8_minutes_5 ⟨Nat.zero_le _, Nat.zero_le _⟩) hS (fun r_1 w1 H locs hw1 hS => ?_)
  obtain ⟨rfl, rfl⟩ := hw1
  refine lv_if_ne (tgt := 14) hx hb dX8_minutes_8 (by decide) (fun c_2 => absurd (h0) c_2) (fun c_2 => ?_)
  refine lv_bipush (v := -2) hx hb dX8_minutes_11 (by decide) ?_
  exact m_iret hx hb hr hlk hS (⟨rfl, rfl⟩) (Nat.le_refl 0) (Nat.le_refl 0) dX8_minutes_13
set_option maxHeartbeats 4000000 in
set_option maxRecDepth 100000 in
theorem c_minutes (l : Launch) (X : Cx) (q : Nat → Nat × va_E) (A : Nat → Nat) (n : Nat) (ad : Nat → Nat) (g : Nat → Rc) (wm dy tl : Int32) (hs : Nat → Int32) (t : Tr) (N f : Nat) (hf : 6 ≤ f) (hN : N < 1000) (h0 : ¬ inB (nI N) 1 200 = 0) (hn : n ≤ 40) (hkd : ∀ i, i < n → kd (g i) < 7) (hov : ∀ i, i < n → ∃ o, o < 3 ∧ g i 6 = nI o) : cI l yX8_minutes cX8_minutes 7 (some .int) (rl f) X [.ref (A 0), .int (nI N)] (wT X (kC q A n ad g wm dy tl hs) false t) (fun r w => r = cnt (gup (minR wm hs N) g n) 4 n - cnt g 4 n ∧ w = wT X (kC q A n ad (gup (minR wm hs N) g n) wm dy tl hs) false t) := by
  refine met_start (by decide) (Nat.le_of_ble_eq_true rfl) ?_
  intro p e s m below meth c ls fx hS hl
  obtain ⟨hx, hb, hr, hml, hown, hG, hlk, hF, hz, hnm⟩ := fx
  have hown : s.vm.findClass RX8 = some m.cls := hown
  have hl : lv_has ls 7 [(0, .ref (A 0)), (1, .int (nI N))] := hl
  refine lv_iload_n hx hb dX8_minutes_0 rfl (lv_at hl 1 rfl) ?_
  refine lv_iconst (v := 1) hx hb dX8_minutes_1 (by decide) ?_
  refine lv_sipush (v := 200) hx hb dX8_minutes_2 (by decide) ?_
  refine m_ci (m_runS (n := 3) (rest := []) ⟨hx, hb, hml, hown, hG⟩ (c_within l X (wT X (kC q A n ad g wm dy tl hs) false t) (nI N) 1 200 0) kw_82 kw_83 kw_18 kw_84 (by decide +kernel) (rl_ok (by omega) (by decide)) hF hz hS rfl hl.1 rfl (Nat.le_of_ble_eq_true rfl) dX8_minutes_5 ⟨Nat.zero_le _, Nat.zero_le _⟩) hS (fun r_1 w1 H locs hw1 hS => ?_)
  obtain ⟨rfl, rfl⟩ := hw1
  refine lv_if_ne (tgt := 14) hx hb dX8_minutes_8 (by decide) (fun c_2 => ?_) (fun c_2 => absurd c_2 (h0))
  refine lv_aload_n hx hb dX8_minutes_14 rfl (lv_at hl 0 rfl) ?_
  refine lv_iconst (v := 4) hx hb dX8_minutes_15 (by decide) ?_
  refine m_ci (m_runV (n := 1) (rest := []) ⟨hx, hb, hml, hown, hG⟩ (c_howMany l X q A n ad g wm dy tl hs t 4 0 hn hkd) kw_401 kw_403 kw_3 kw_18 kw_404 (by decide +kernel) (rl_ok (by omega) (by decide)) hF hz hS (q0 := 10) rfl rfl rfl hl.1 rfl (Nat.le_of_ble_eq_true rfl) dX8_minutes_16 ⟨Nat.zero_le _, Nat.zero_le _⟩) hS (fun r_3 w2 H locs hw2 hS => ?_)
  obtain ⟨rfl, rfl⟩ := hw2
  refine lv_istore_n (lv' := [(2, .int (cnt g 4 n)), (0, .ref (A 0)), (1, .int (nI N))]) hx hb dX8_minutes_19 rfl hl (by decide) rfl (fun ls hl => ?_)
  refine lv_aload_n hx hb dX8_minutes_20 rfl (lv_at hl 1 rfl) ?_
  refine m_get (v := .ref (A 1)) hx hb hG hown hF hS (10) rfl rfl iG_8 0 (by decide) kw_56 (fun _ h9 => h9) rfl dX8_minutes_21 ?_
  refine lv_astore_n (lv' := [(3, .ref (A 1)), (2, .int (cnt g 4 n)), (0, .ref (A 0)), (1, .int (nI N))]) hx hb dX8_minutes_24 rfl hl (by decide) rfl (fun ls hl => ?_)
  refine lv_aload_n hx hb dX8_minutes_25 rfl (lv_at hl 0 rfl) ?_
  refine m_alenQ hx hb hF hS (11) rfl dX8_minutes_26 ?_
  refine lv_istore (lv' := [(4, .int (nI 40)), (3, .ref (A 1)), (2, .int (cnt g 4 n)), (0, .ref (A 0)), (1, .int (nI N))]) hx hb dX8_minutes_27 hl (by decide) rfl (fun ls hl => ?_)
  refine lv_iconst (v := 0) hx hb dX8_minutes_29 (by decide) ?_
  refine lv_istore (lv' := [(5, .int 0), (4, .int (nI 40)), (3, .ref (A 1)), (2, .int (cnt g 4 n)), (0, .ref (A 0)), (1, .int (nI N))]) hx hb dX8_minutes_30 hl (by decide) rfl (fun ls hl => ?_)
  refine mt_loop (N := N) hN hn hkd hov hx hb hr hml hown hG hlk hF hz (rl_ok (by omega) (by decide)) ⟨by show 5 + 1 ≤ f; omega, fun k hk => by show 8 + (k + 11) + 27 * 5 ≤ 27 * f; omega⟩ ⟨rfl, rfl⟩ 40 0 0 ls _ _ nI_0.symm (by omega) (by rw [Nat.zero_min, gup_0]; exact hS) (lv_sub hl [0, 4, 5, 3, 2, 1] rfl)
set_option maxHeartbeats 4000000 in
set_option maxRecDepth 100000 in
theorem dt_end {p : Program} {l : Launch} {e : Env} {R : Room} {s : State} {m : MethodId} {args : Array Value} {below : List Frame} {meth : Method} {c : Code} {X : Cx} {q : Nat → Nat × va_E} {A : Nat → Nat} {n : Nat} {ad : Nat → Nat} {g : Nat → Rc} {wm dy tl : Int32} {hs : Nat → Int32} {t : Tr} {H : Heap} {locs : List Loc} {x1 : Int32} {P : Int32 → va_W → Prop} {ls : Array Slot} (hx : p.tables.exec = Jvm.exec) (hb : c.code = cX8_day) (hr : meth.sig.returnType = some .int) (hml : c.maxLocals = 8) (hown : s.vm.findClass RX8 = some m.cls) (hG : ∀ w ∈ G, w.before args s = true) (hlk : meth.locks = false) (hF : mF X s) (hz : X.2.2.2 ≤ s.heap.size) (hS : mS X s (wT X (kC q A n ad g wm dy tl hs) false t) H locs) (hl : lv_has ls 8 [(0, .ref (A 0)), (1, .int x1)]) (hP : P x1 (wT X (kC q A n ad g wm (dy + 1) tl hs) false t)) : W p l e R s m args below meth c H locs 0 0 (MQ below (va_Qi P (fun w t => mH X w t.heap) (xA X)) args s 0 0 (xA X)) (F0 m 111 ls []) := by
  refine lv_aload_n hx hb dX8_day_111 rfl (lv_at hl 0 rfl) ?_
  refine lv_dup hx hb dX8_day_112 rfl ?_
  refine m_get (v := .int dy) hx hb hG hown hF hS (10) rfl rfl iG_8 5 (by decide) kw_61 (fun _ h9 => h9) rfl dX8_day_113 ?_
  refine lv_iconst (v := 1) hx hb dX8_day_116 (by decide) ?_
  refine lv_iadd hx hb dX8_day_117 ?_
  refine m_put hx hb hG hown hF hS (10) rfl rfl iG_8 tyX8_ok nmX8 5 (by decide) kw_61 (fun _ h9 => h9) rfl rfl rfl (Nat.le_of_ble_eq_true rfl) (wT X (kC q A n ad g wm (dy + 1) tl hs) false t) rfl dX8_day_118 (fun H locs hS => ?_)
  refine lv_iload_n hx hb dX8_day_121 rfl (lv_at hl 1 rfl) ?_
  exact m_iret hx hb hr hlk hS (hP) (Nat.le_refl 0) (Nat.le_refl 0) dX8_day_122
set_option maxHeartbeats 4000000 in
set_option maxRecDepth 100000 in
theorem dt_loop {p : Program} {l : Launch} {e : Env} {R : Room} {s : State} {m : MethodId} {args : Array Value} {below : List Frame} {meth : Method} {c : Code} {X : Cx} {q : Nat → Nat × va_E} {A : Nat → Nat} {n : Nat} {ad : Nat → Nat} {g : Nat → Rc} {wm dy tl : Int32} {hs : Nat → Int32} {t : Tr} {P : Int32 → va_W → Prop} (hn : n ≤ 40) (hkd : ∀ i, i < n → kd (g i) < 7) (hx : p.tables.exec = Jvm.exec) (hb : c.code = cX8_day) (hr : meth.sig.returnType = some .int) (hml : c.maxLocals = 8) (hown : s.vm.findClass RX8 = some m.cls) (hG : ∀ w ∈ G, w.before args s = true) (hlk : meth.locks = false) (hF : mF X s) (hz : X.2.2.2 ≤ s.heap.size) (hR2 : (rl 6).frames + 1 ≤ R.frames ∧ ∀ k, k ≤ 8 → 8 + (k + 11) + (rl 6).locals ≤ R.locals) (hP : P (dayC dy g n) (wT X (kC q A n ad (gup (dayR dy) g n) wm (dy + 1) tl hs) false t)) : ∀ (d j : Nat) (x4 x1 : Int32) (ls : Array Slot) (H : Heap) (locs : List Loc), x4 = nI j → j + d = 40 → x1 = dayC dy g (min j n) → mS X s (wT X (kC q A n ad (gup (dayR dy) g (min j n)) wm dy tl hs) false t) H locs → lv_has ls 8 [(4, .int x4), (1, .int x1), (0, .ref (A 0)), (2, .ref (A 1)), (3, .int (nI 40))] → W p l e R s m args below meth c H locs 0 0 (MQ below (va_Qi P (fun w t => mH X w t.heap) (xA X)) args s 0 0 (xA X)) (F0 m 26 ls []) := by
  intro d
  induction d with
  | zero =>
    intro j x4 x1 ls H locs ex hd e1 hS hl
    have hj : j = 40 := by omega
    subst hj
    rw [Nat.min_eq_right hn] at hS e1
    subst e1
    refine lv_iload hx hb dX8_day_26 (lv_at hl 0 rfl) ?_
    refine lv_iload_n hx hb dX8_day_28 rfl (lv_at hl 4 rfl) ?_
    refine lv_icmp_ge (tgt := 111) hx hb dX8_day_29 (by decide) (fun c_1 => ?_) (fun c_1 => absurd (by rw [ex]; exact Int32.le_refl _) c_1)
    exact dt_end hx hb hr hml hown hG hlk hF hz hS (lv_sub hl [2, 1] rfl) hP
  | succ d ih =>
    intro j x4 x1 ls H locs ex hd e1 hS hl
    subst ex
    refine lv_iload hx hb dX8_day_26 (lv_at hl 0 rfl) ?_
    refine lv_iload_n hx hb dX8_day_28 rfl (lv_at hl 4 rfl) ?_
    refine lv_icmp_ge (tgt := 111) hx hb dX8_day_29 (by decide) (fun c_2 => absurd c_2 (nI_ge (by omega) (by decide))) (fun c_2 => ?_)
    refine lv_aload_n hx hb dX8_day_32 rfl (lv_at hl 3 rfl) ?_
    refine lv_iload hx hb dX8_day_33 (lv_at hl 0 rfl) ?_
    by_cases hj : j < n
    · rw [Nat.min_eq_left (Nat.le_of_lt hj)] at hS e1
      refine m_aaldS hx hb hF hS (11) rfl (j) rfl (by omega) (by decide) (bfn_in hj) dX8_day_35 ?_
      refine lv_astore (lv' := [(5, .ref (ad j)), (4, .int (nI j)), (1, .int x1), (0, .ref (A 0)), (2, .ref (A 1)), (3, .int (nI 40))]) hx hb dX8_day_36 hl (by decide) rfl (fun ls hl => ?_)
      refine lv_aload hx hb dX8_day_38 (lv_at hl 0 rfl) ?_
      refine lv_ifnonnull (tgt := 46) hx hb dX8_day_40 (by decide) ?_
      refine lv_aload hx hb dX8_day_46 (lv_at hl 0 rfl) ?_
      refine m_get (v := .int (g j 3)) hx hb hG hown hF hS (j + 15) (kC_atg hj) (kd_cls (hkd j hj)).1 (kd_cls (hkd j hj)).2 3 (by decide) kw_116 (fun _ h9 => h9) rfl dX8_day_48 ?_
      refine lv_iconst (v := 2) hx hb dX8_day_51 (by decide) ?_
      refine lv_icmp_ne (tgt := 105) hx hb dX8_day_52 (by decide) (fun c_3 => ?_) (fun c_3 => ?_)
      · obtain ⟨x_4, ex_4⟩ : ∃ y : Int32, y = (nI j) + 1 := ⟨_, rfl⟩
        refine lv_iinc (v := x_4) (lv' := [(4, .int x_4), (5, .ref (ad j)), (1, .int x1), (0, .ref (A 0)), (2, .ref (A 1)), (3, .int (nI 40))]) hx hb dX8_day_105 hl (k := 1) rfl (by rw [ex_4]; rfl) (by decide) rfl (fun ls hl => ?_)
        refine lv_goto (tgt := 26) hx hb dX8_day_108 (by decide) ?_
        exact ih (j + 1) x_4 x1 ls _ _ (by rw [ex_4]; exact nI_1 j) (by omega) (by rw [Nat.min_eq_left hj, dayC]; rw [if_neg c_3, e1]) (by rw [Nat.min_eq_left hj]; rw [gup_skip (by unfold dayR; rw [if_neg c_3])]; exact hS) (lv_sub hl [0, 2, 3, 4, 5] rfl)
      · refine lv_aload hx hb dX8_day_55 (lv_at hl 0 rfl) ?_
        by_cases h5 : 2 ≤ kd (g j) ∧ kd (g j) < 5
        · refine m_instY hx hb hG hown hF hS (j + 15) (kC_atg hj) (hkd j hj) kw_140 (hF.2.2.2.1 _ h5.1 h5.2) dX8_day_57 ?_
          refine lv_if_eq (tgt := 78) hx hb dX8_day_60 (by decide) (fun c_4 => absurd c_4 (by decide)) (fun c_4 => ?_)
          refine lv_aload hx hb dX8_day_63 (lv_at hl 0 rfl) ?_
          refine m_castY hx hb hG hown hF hS (j + 15) (kC_atg hj) (hkd j hj) kw_140 (hF.2.2.2.1 _ h5.1 h5.2) dX8_day_65 ?_
          refine lv_astore (lv' := [(7, .ref (ad j)), (5, .ref (ad j)), (4, .int (nI j)), (1, .int x1), (0, .ref (A 0)), (2, .ref (A 1)), (3, .int (nI 40))]) hx hb dX8_day_68 hl (by decide) rfl (fun ls hl => ?_)
          refine lv_aload hx hb dX8_day_70 (lv_at hl 0 rfl) ?_
          refine m_ci (m_runU (x := yX4_keeps) (owner := "DoughRoom$Sour") (n := 0) (rest := []) ⟨hx, hb, hml, hown, hG⟩ (f_keeps l X (kC q A n ad (gup (dayR dy) g j) wm dy tl hs) false t (ad j) j (g j) (kd (g j)) 6 (kC_hig hj) rfl h5.1 h5.2 (by decide) tR.f) kw_344 kw_347 kw_345 kw_353 (fam_keeps (kd (g j)) h5.1 h5.2).2.1 (fam_keeps (kd (g j)) h5.1 h5.2).1 (fam_keeps (kd (g j)) h5.1 h5.2).2.2.1 (fam_keeps (kd (g j)) h5.1 h5.2).2.2.2.1 (by decide +kernel) ⟨hR2.1, hR2.2 _ (fam_keeps (kd (g j)) h5.1 h5.2).2.2.2.2⟩ hF hz hS (q0 := j + 15) (kC_atg hj) (kd_cls (hkd j hj)).1 rfl hl.1 rfl (Nat.le_of_ble_eq_true rfl) dX8_day_72 ⟨Nat.zero_le _, Nat.zero_le _⟩) hS (fun r_5 w3 H locs hw3 hS => ?_)
          obtain ⟨rfl, rfl⟩ := hw3
          refine lv_goto (tgt := 79) hx hb dX8_day_75 (by decide) ?_
          refine lv_istore (lv' := [(6, .int (keepsV (kd (g j)) (g j 1))), (7, .ref (ad j)), (5, .ref (ad j)), (4, .int (nI j)), (1, .int x1), (0, .ref (A 0)), (2, .ref (A 1)), (3, .int (nI 40))]) hx hb dX8_day_79 hl (by decide) rfl (fun ls hl => ?_)
          refine lv_aload_n hx hb dX8_day_81 rfl (lv_at hl 5 rfl) ?_
          refine m_get (v := .int dy) hx hb hG hown hF hS (10) rfl rfl iG_8 5 (by decide) kw_61 (fun _ h9 => h9) rfl dX8_day_82 ?_
          refine lv_aload hx hb dX8_day_85 (lv_at hl 2 rfl) ?_
          refine m_get (v := .int (g j 7)) hx hb hG hown hF hS (j + 15) (kC_atg hj) (kd_cls (hkd j hj)).1 (kd_cls (hkd j hj)).2 7 (by decide) kw_122 (fun _ h9 => h9) rfl dX8_day_87 ?_
          refine lv_isub hx hb dX8_day_90 ?_
          refine lv_iload hx hb dX8_day_91 (lv_at hl 0 rfl) ?_
          refine lv_icmp_lt (tgt := 105) hx hb dX8_day_93 (by decide) (fun c_6 => ?_) (fun c_6 => ?_)
          · obtain ⟨x_7, ex_7⟩ : ∃ y : Int32, y = (nI j) + 1 := ⟨_, rfl⟩
            refine lv_iinc (v := x_7) (lv' := [(4, .int x_7), (6, .int (keepsV (kd (g j)) (g j 1))), (7, .ref (ad j)), (5, .ref (ad j)), (1, .int x1), (0, .ref (A 0)), (2, .ref (A 1)), (3, .int (nI 40))]) hx hb dX8_day_105 hl (k := 3) rfl (by rw [ex_7]; rfl) (by decide) rfl (fun ls hl => ?_)
            refine lv_goto (tgt := 26) hx hb dX8_day_108 (by decide) ?_
            exact ih (j + 1) x_7 x1 ls _ _ (by rw [ex_7]; exact nI_1 j) (by omega) (by rw [Nat.min_eq_left hj, dayC]; rw [if_pos c_3, if_pos (by rw [keepK, if_pos h5]; exact c_6), e1]) (by rw [Nat.min_eq_left hj]; rw [gup_skip (by unfold dayR; rw [if_pos c_3, if_pos (by rw [keepK, if_pos h5]; exact c_6)])]; exact hS) (lv_sub hl [0, 4, 5, 6, 7] rfl)
          · refine lv_aload hx hb dX8_day_96 (lv_at hl 2 rfl) ?_
            refine lv_iconst (v := 4) hx hb dX8_day_98 (by decide) ?_
            refine m_put hx hb hG hown hF hS (j + 15) (kC_atg hj) (kd_cls (hkd j hj)).1 (kd_cls (hkd j hj)).2 tyX2_ok nmX2 3 (by decide) kw_116 (fun _ h9 => h9) rfl rfl rfl (Nat.le_of_ble_eq_true rfl) (wT X (kC q A n ad (gup (dayR dy) g (j + 1)) wm dy tl hs) false t) (wC_setg (rc := va_up (g j) 3 4) hj (by unfold dayR; rw [if_pos c_3, if_neg (by rw [keepK, if_pos h5]; exact c_6)])) dX8_day_99 (fun H locs hS => ?_)
            obtain ⟨x_7, ex_7⟩ : ∃ y : Int32, y = x1 + 1 := ⟨_, rfl⟩
            refine lv_iinc (v := x_7) (lv' := [(1, .int x_7), (6, .int (keepsV (kd (g j)) (g j 1))), (7, .ref (ad j)), (5, .ref (ad j)), (4, .int (nI j)), (0, .ref (A 0)), (2, .ref (A 1)), (3, .int (nI 40))]) hx hb dX8_day_102 hl (k := 4) rfl (by rw [ex_7]; rfl) (by decide) rfl (fun ls hl => ?_)
            obtain ⟨x_8, ex_8⟩ : ∃ y : Int32, y = (nI j) + 1 := ⟨_, rfl⟩
            refine lv_iinc (v := x_8) (lv' := [(4, .int x_8), (1, .int x_7), (6, .int (keepsV (kd (g j)) (g j 1))), (7, .ref (ad j)), (5, .ref (ad j)), (0, .ref (A 0)), (2, .ref (A 1)), (3, .int (nI 40))]) hx hb dX8_day_105 hl (k := 4) rfl (by rw [ex_8]; rfl) (by decide) rfl (fun ls hl => ?_)
            refine lv_goto (tgt := 26) hx hb dX8_day_108 (by decide) ?_
            exact ih (j + 1) x_8 x_7 ls _ _ (by rw [ex_8]; exact nI_1 j) (by omega) (by rw [Nat.min_eq_left hj, dayC]; rw [if_pos c_3, if_neg (by rw [keepK, if_pos h5]; exact c_6), ex_7, e1]) (by rw [Nat.min_eq_left hj]; skip; exact hS) (lv_sub hl [0, 1, 5, 6, 7] rfl)
        · rcases Nat.lt_or_ge (kd (g j)) 2 with h6 | h6
          · refine m_instN hx hb hG hown hF hS (j + 15) (kC_atg hj) (hkd j hj) kw_140 (hF.2.2.2.2.2.1 _ h6) dX8_day_57 ?_
            refine lv_if_eq (tgt := 78) hx hb dX8_day_60 (by decide) (fun c_4 => ?_) (fun c_4 => absurd (rfl) c_4)
            refine lv_iconst (v := 1) hx hb dX8_day_78 (by decide) ?_
            refine lv_istore (lv' := [(6, .int 1), (5, .ref (ad j)), (4, .int (nI j)), (1, .int x1), (0, .ref (A 0)), (2, .ref (A 1)), (3, .int (nI 40))]) hx hb dX8_day_79 hl (by decide) rfl (fun ls hl => ?_)
            refine lv_aload_n hx hb dX8_day_81 rfl (lv_at hl 4 rfl) ?_
            refine m_get (v := .int dy) hx hb hG hown hF hS (10) rfl rfl iG_8 5 (by decide) kw_61 (fun _ h9 => h9) rfl dX8_day_82 ?_
            refine lv_aload hx hb dX8_day_85 (lv_at hl 1 rfl) ?_
            refine m_get (v := .int (g j 7)) hx hb hG hown hF hS (j + 15) (kC_atg hj) (kd_cls (hkd j hj)).1 (kd_cls (hkd j hj)).2 7 (by decide) kw_122 (fun _ h9 => h9) rfl dX8_day_87 ?_
            refine lv_isub hx hb dX8_day_90 ?_
            refine lv_iload hx hb dX8_day_91 (lv_at hl 0 rfl) ?_
            refine lv_icmp_lt (tgt := 105) hx hb dX8_day_93 (by decide) (fun c_5 => ?_) (fun c_5 => ?_)
            · obtain ⟨x_6, ex_6⟩ : ∃ y : Int32, y = (nI j) + 1 := ⟨_, rfl⟩
              refine lv_iinc (v := x_6) (lv' := [(4, .int x_6), (6, .int 1), (5, .ref (ad j)), (1, .int x1), (0, .ref (A 0)), (2, .ref (A 1)), (3, .int (nI 40))]) hx hb dX8_day_105 hl (k := 2) rfl (by rw [ex_6]; rfl) (by decide) rfl (fun ls hl => ?_)
              refine lv_goto (tgt := 26) hx hb dX8_day_108 (by decide) ?_
              exact ih (j + 1) x_6 x1 ls _ _ (by rw [ex_6]; exact nI_1 j) (by omega) (by rw [Nat.min_eq_left hj, dayC]; rw [if_pos c_3, if_pos (by rw [keepK, if_neg h5]; exact c_5), e1]) (by rw [Nat.min_eq_left hj]; rw [gup_skip (by unfold dayR; rw [if_pos c_3, if_pos (by rw [keepK, if_neg h5]; exact c_5)])]; exact hS) (lv_sub hl [0, 3, 4, 5, 6] rfl)
            · refine lv_aload hx hb dX8_day_96 (lv_at hl 1 rfl) ?_
              refine lv_iconst (v := 4) hx hb dX8_day_98 (by decide) ?_
              refine m_put hx hb hG hown hF hS (j + 15) (kC_atg hj) (kd_cls (hkd j hj)).1 (kd_cls (hkd j hj)).2 tyX2_ok nmX2 3 (by decide) kw_116 (fun _ h9 => h9) rfl rfl rfl (Nat.le_of_ble_eq_true rfl) (wT X (kC q A n ad (gup (dayR dy) g (j + 1)) wm dy tl hs) false t) (wC_setg (rc := va_up (g j) 3 4) hj (by unfold dayR; rw [if_pos c_3, if_neg (by rw [keepK, if_neg h5]; exact c_5)])) dX8_day_99 (fun H locs hS => ?_)
              obtain ⟨x_6, ex_6⟩ : ∃ y : Int32, y = x1 + 1 := ⟨_, rfl⟩
              refine lv_iinc (v := x_6) (lv' := [(1, .int x_6), (6, .int 1), (5, .ref (ad j)), (4, .int (nI j)), (0, .ref (A 0)), (2, .ref (A 1)), (3, .int (nI 40))]) hx hb dX8_day_102 hl (k := 3) rfl (by rw [ex_6]; rfl) (by decide) rfl (fun ls hl => ?_)
              obtain ⟨x_7, ex_7⟩ : ∃ y : Int32, y = (nI j) + 1 := ⟨_, rfl⟩
              refine lv_iinc (v := x_7) (lv' := [(4, .int x_7), (1, .int x_6), (6, .int 1), (5, .ref (ad j)), (0, .ref (A 0)), (2, .ref (A 1)), (3, .int (nI 40))]) hx hb dX8_day_105 hl (k := 3) rfl (by rw [ex_7]; rfl) (by decide) rfl (fun ls hl => ?_)
              refine lv_goto (tgt := 26) hx hb dX8_day_108 (by decide) ?_
              exact ih (j + 1) x_7 x_6 ls _ _ (by rw [ex_7]; exact nI_1 j) (by omega) (by rw [Nat.min_eq_left hj, dayC]; rw [if_pos c_3, if_neg (by rw [keepK, if_neg h5]; exact c_5), ex_6, e1]) (by rw [Nat.min_eq_left hj]; skip; exact hS) (lv_sub hl [0, 1, 4, 5, 6] rfl)
          · have h6 : 5 ≤ kd (g j) := Nat.le_of_not_lt (fun q => h5 ⟨h6, q⟩)
            refine m_instN hx hb hG hown hF hS (j + 15) (kC_atg hj) (hkd j hj) kw_140 (hF.2.2.2.2.2.2.1 _ h6 (hkd j hj)) dX8_day_57 ?_
            refine lv_if_eq (tgt := 78) hx hb dX8_day_60 (by decide) (fun c_4 => ?_) (fun c_4 => absurd (rfl) c_4)
            refine lv_iconst (v := 1) hx hb dX8_day_78 (by decide) ?_
            refine lv_istore (lv' := [(6, .int 1), (5, .ref (ad j)), (4, .int (nI j)), (1, .int x1), (0, .ref (A 0)), (2, .ref (A 1)), (3, .int (nI 40))]) hx hb dX8_day_79 hl (by decide) rfl (fun ls hl => ?_)
            refine lv_aload_n hx hb dX8_day_81 rfl (lv_at hl 4 rfl) ?_
            refine m_get (v := .int dy) hx hb hG hown hF hS (10) rfl rfl iG_8 5 (by decide) kw_61 (fun _ h9 => h9) rfl dX8_day_82 ?_
            refine lv_aload hx hb dX8_day_85 (lv_at hl 1 rfl) ?_
            refine m_get (v := .int (g j 7)) hx hb hG hown hF hS (j + 15) (kC_atg hj) (kd_cls (hkd j hj)).1 (kd_cls (hkd j hj)).2 7 (by decide) kw_122 (fun _ h9 => h9) rfl dX8_day_87 ?_
            refine lv_isub hx hb dX8_day_90 ?_
            refine lv_iload hx hb dX8_day_91 (lv_at hl 0 rfl) ?_
            refine lv_icmp_lt (tgt := 105) hx hb dX8_day_93 (by decide) (fun c_5 => ?_) (fun c_5 => ?_)
            · obtain ⟨x_6, ex_6⟩ : ∃ y : Int32, y = (nI j) + 1 := ⟨_, rfl⟩
              refine lv_iinc (v := x_6) (lv' := [(4, .int x_6), (6, .int 1), (5, .ref (ad j)), (1, .int x1), (0, .ref (A 0)), (2, .ref (A 1)), (3, .int (nI 40))]) hx hb dX8_day_105 hl (k := 2) rfl (by rw [ex_6]; rfl) (by decide) rfl (fun ls hl => ?_)
              refine lv_goto (tgt := 26) hx hb dX8_day_108 (by decide) ?_
              exact ih (j + 1) x_6 x1 ls _ _ (by rw [ex_6]; exact nI_1 j) (by omega) (by rw [Nat.min_eq_left hj, dayC]; rw [if_pos c_3, if_pos (by rw [keepK, if_neg h5]; exact c_5), e1]) (by rw [Nat.min_eq_left hj]; rw [gup_skip (by unfold dayR; rw [if_pos c_3, if_pos (by rw [keepK, if_neg h5]; exact c_5)])]; exact hS) (lv_sub hl [0, 3, 4, 5, 6] rfl)
            · refine lv_aload hx hb dX8_day_96 (lv_at hl 1 rfl) ?_
              refine lv_iconst (v := 4) hx hb dX8_day_98 (by decide) ?_
              refine m_put hx hb hG hown hF hS (j + 15) (kC_atg hj) (kd_cls (hkd j hj)).1 (kd_cls (hkd j hj)).2 tyX2_ok nmX2 3 (by decide) kw_116 (fun _ h9 => h9) rfl rfl rfl (Nat.le_of_ble_eq_true rfl) (wT X (kC q A n ad (gup (dayR dy) g (j + 1)) wm dy tl hs) false t) (wC_setg (rc := va_up (g j) 3 4) hj (by unfold dayR; rw [if_pos c_3, if_neg (by rw [keepK, if_neg h5]; exact c_5)])) dX8_day_99 (fun H locs hS => ?_)
              obtain ⟨x_6, ex_6⟩ : ∃ y : Int32, y = x1 + 1 := ⟨_, rfl⟩
              refine lv_iinc (v := x_6) (lv' := [(1, .int x_6), (6, .int 1), (5, .ref (ad j)), (4, .int (nI j)), (0, .ref (A 0)), (2, .ref (A 1)), (3, .int (nI 40))]) hx hb dX8_day_102 hl (k := 3) rfl (by rw [ex_6]; rfl) (by decide) rfl (fun ls hl => ?_)
              obtain ⟨x_7, ex_7⟩ : ∃ y : Int32, y = (nI j) + 1 := ⟨_, rfl⟩
              refine lv_iinc (v := x_7) (lv' := [(4, .int x_7), (1, .int x_6), (6, .int 1), (5, .ref (ad j)), (0, .ref (A 0)), (2, .ref (A 1)), (3, .int (nI 40))]) hx hb dX8_day_105 hl (k := 3) rfl (by rw [ex_7]; rfl) (by decide) rfl (fun ls hl => ?_)
              refine lv_goto (tgt := 26) hx hb dX8_day_108 (by decide) ?_
              exact ih (j + 1) x_7 x_6 ls _ _ (by rw [ex_7]; exact nI_1 j) (by omega) (by rw [Nat.min_eq_left hj, dayC]; rw [if_pos c_3, if_neg (by rw [keepK, if_neg h5]; exact c_5), ex_6, e1]) (by rw [Nat.min_eq_left hj]; skip; exact hS) (lv_sub hl [0, 1, 4, 5, 6] rfl)
    · rw [Nat.min_eq_right (by omega)] at hS e1
      subst e1
      refine m_aaldN hx hb hF hS (11) rfl (j) rfl (by omega) (by decide) (bfn_out (by omega)) dX8_day_35 ?_
      refine lv_astoreN (lv' := [(5, .null), (4, .int (nI j)), (1, .int (dayC dy g n)), (0, .ref (A 0)), (2, .ref (A 1)), (3, .int (nI 40))]) hx hb dX8_day_36 hl (by decide) rfl (fun ls hl => ?_)
      refine lv_aloadN hx hb dX8_day_38 (lv_at hl 0 rfl) ?_
      refine lv_ifnonnullN hx hb dX8_day_40 ?_
      refine lv_goto (tgt := 111) hx hb dX8_day_43 (by decide) ?_
      exact dt_end hx hb hr hml hown hG hlk hF hz hS (lv_sub hl [3, 2] rfl) hP
set_option maxHeartbeats 4000000 in
set_option maxRecDepth 100000 in
theorem c_day_full (l : Launch) (X : Cx) (q : Nat → Nat × va_E) (A : Nat → Nat) (n : Nat) (ad : Nat → Nat) (g : Nat → Rc) (wm dy tl : Int32) (hs : Nat → Int32) (t : Tr) (f : Nat) (h0 : ¬ dy < 10000) : cI l yX8_day cX8_day 8 (some .int) (rl f) X [.ref (A 0)] (wT X (kC q A n ad g wm dy tl hs) false t) (fun r w => r = -4 ∧ w = wT X (kC q A n ad g wm dy tl hs) false t) := by
  refine met_start (by decide) (Nat.le_of_ble_eq_true rfl) ?_
  intro p e s m below meth c ls fx hS hl
  obtain ⟨hx, hb, hr, hml, hown, hG, hlk, hF, hz, hnm⟩ := fx
  have hown : s.vm.findClass RX8 = some m.cls := hown
  have hl : lv_has ls 8 [(0, .ref (A 0))] := hl
  refine lv_aload_n hx hb dX8_day_0 rfl (lv_at hl 0 rfl) ?_
  refine m_get (v := .int dy) hx hb hG hown hF hS (10) rfl rfl iG_8 5 (by decide) kw_61 (fun _ h9 => h9) rfl dX8_day_1 ?_
  refine lv_sipush (v := 10000) hx hb dX8_day_4 (by decide) ?_
  refine lv_icmp_lt (tgt := 13) hx hb dX8_day_7 (by decide) (fun c_1 => absurd c_1 (h0)) (fun c_1 => ?_)
  refine lv_bipush (v := -4) hx hb dX8_day_10 (by decide) ?_
  exact m_iret hx hb hr hlk hS (⟨rfl, rfl⟩) (Nat.le_refl 0) (Nat.le_refl 0) dX8_day_12
set_option maxHeartbeats 4000000 in
set_option maxRecDepth 100000 in
theorem c_day (l : Launch) (X : Cx) (q : Nat → Nat × va_E) (A : Nat → Nat) (n : Nat) (ad : Nat → Nat) (g : Nat → Rc) (wm dy tl : Int32) (hs : Nat → Int32) (t : Tr) (f : Nat) (hf : 7 ≤ f) (h0 : dy < 10000) (hn : n ≤ 40) (hkd : ∀ i, i < n → kd (g i) < 7) : cI l yX8_day cX8_day 8 (some .int) (rl f) X [.ref (A 0)] (wT X (kC q A n ad g wm dy tl hs) false t) (fun r w => r = dayC dy g n ∧ w = wT X (kC q A n ad (gup (dayR dy) g n) wm (dy + 1) tl hs) false t) := by
  refine met_start (by decide) (Nat.le_of_ble_eq_true rfl) ?_
  intro p e s m below meth c ls fx hS hl
  obtain ⟨hx, hb, hr, hml, hown, hG, hlk, hF, hz, hnm⟩ := fx
  have hown : s.vm.findClass RX8 = some m.cls := hown
  have hl : lv_has ls 8 [(0, .ref (A 0))] := hl
  refine lv_aload_n hx hb dX8_day_0 rfl (lv_at hl 0 rfl) ?_
  refine m_get (v := .int dy) hx hb hG hown hF hS (10) rfl rfl iG_8 5 (by decide) kw_61 (fun _ h9 => h9) rfl dX8_day_1 ?_
  refine lv_sipush (v := 10000) hx hb dX8_day_4 (by decide) ?_
  refine lv_icmp_lt (tgt := 13) hx hb dX8_day_7 (by decide) (fun c_1 => ?_) (fun c_1 => absurd (h0) c_1)
  refine lv_iconst (v := 0) hx hb dX8_day_13 (by decide) ?_
  refine lv_istore_n (lv' := [(1, .int 0), (0, .ref (A 0))]) hx hb dX8_day_14 rfl hl (by decide) rfl (fun ls hl => ?_)
  refine lv_aload_n hx hb dX8_day_15 rfl (lv_at hl 1 rfl) ?_
  refine m_get (v := .ref (A 1)) hx hb hG hown hF hS (10) rfl rfl iG_8 0 (by decide) kw_56 (fun _ h9 => h9) rfl dX8_day_16 ?_
  refine lv_astore_n (lv' := [(2, .ref (A 1)), (1, .int 0), (0, .ref (A 0))]) hx hb dX8_day_19 rfl hl (by decide) rfl (fun ls hl => ?_)
  refine lv_aload_n hx hb dX8_day_20 rfl (lv_at hl 0 rfl) ?_
  refine m_alenQ hx hb hF hS (11) rfl dX8_day_21 ?_
  refine lv_istore_n (lv' := [(3, .int (nI 40)), (2, .ref (A 1)), (1, .int 0), (0, .ref (A 0))]) hx hb dX8_day_22 rfl hl (by decide) rfl (fun ls hl => ?_)
  refine lv_iconst (v := 0) hx hb dX8_day_23 (by decide) ?_
  refine lv_istore (lv' := [(4, .int 0), (3, .int (nI 40)), (2, .ref (A 1)), (1, .int 0), (0, .ref (A 0))]) hx hb dX8_day_24 hl (by decide) rfl (fun ls hl => ?_)
  refine dt_loop hn hkd hx hb hr hml hown hG hlk hF hz ⟨by show 6 + 1 ≤ f; omega, fun k hk => by show 8 + (k + 11) + 27 * 6 ≤ 27 * f; omega⟩ ⟨rfl, rfl⟩ 40 0 0 0 ls _ _ nI_0.symm (by omega) (by rw [Nat.zero_min]; rfl) (by rw [Nat.zero_min, gup_0]; exact hS) (lv_sub hl [0, 3, 4, 2, 1] rfl)
