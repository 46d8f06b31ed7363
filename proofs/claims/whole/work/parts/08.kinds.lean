def yRise (k : Nat) : MethodName := match k with
  | 0 => yX2_rise
  | 1 => yX2_rise
  | 2 => yX4_rise
  | 3 => yX4_rise
  | 4 => yX0_rise
  | 5 => yX2_rise
  | _ => yX1_rise
def bRise (k : Nat) : ByteArray := match k with
  | 0 => cX2_rise
  | 1 => cX2_rise
  | 2 => cX4_rise
  | 3 => cX4_rise
  | 4 => cX0_rise
  | 5 => cX2_rise
  | _ => cX1_rise
def nRise (k : Nat) : Nat := match k with
  | 0 => 2
  | 1 => 2
  | 2 => 2
  | 3 => 2
  | 4 => 2
  | 5 => 2
  | _ => 2
theorem fam_rise (k : Nat) (h1 : 0 ≤ k) (h2 : k < 7) : Cond.selects (RD k) yX2_rise (yRise k) ∈ G ∧ Cond.instanceMethod (yRise k) ∈ G ∧ Cond.initialized (yRise k).cls ∈ G ∧ Cond.code (yRise k) (bRise k) (nRise k) (some .int) ∈ G ∧ nRise k ≤ 8 :=
  match k, h1, h2 with
  | 0, _, _ => ⟨kw_243, kw_242, kw_21, kw_271, by decide⟩
  | 1, _, _ => ⟨kw_270, kw_242, kw_21, kw_271, by decide⟩
  | 2, _, _ => ⟨kw_268, kw_255, kw_23, kw_256, by decide⟩
  | 3, _, _ => ⟨kw_267, kw_255, kw_23, kw_256, by decide⟩
  | 4, _, _ => ⟨kw_245, kw_246, kw_25, kw_247, by decide⟩
  | 5, _, _ => ⟨kw_269, kw_242, kw_21, kw_271, by decide⟩
  | 6, _, _ => ⟨kw_261, kw_262, kw_27, kw_263, by decide⟩
set_option maxHeartbeats 4000000 in
set_option maxRecDepth 100000 in
theorem f_rise (l : Launch) (X : Cx) (K : KT) (r : Bool) (t : Tr) (h i : Nat) (rc : Rc) (k : Nat) (w : Int32) (f : Nat) (hi : (kP K)[i]? = some (h, dE (kA K 3) rc)) (hk : kd rc = k) (h1 : 0 ≤ k) (h2 : k < 7) (hf : 3 ≤ f) (ht : tR r 3 t) : cI l (yRise k) (bRise k) (nRise k) (some .int) (rl f) X [.ref h, .int w] (wT X K r t) (fun v w' => v = riseV k w ∧ w' = wT X K r (te r (riseT k) t)) :=
  match k, hk, h1, h2 with
  | 0, hk, _, _ => c_Drise l X K r t h i rc w f hi (by rw [hk]; decide) (by omega) (ht.le (by decide))
  | 1, hk, _, _ => c_Drise l X K r t h i rc w f hi (by rw [hk]; decide) (by omega) (ht.le (by decide))
  | 2, hk, _, _ => c_Srise l X K r t h i rc w f hi (by rw [hk]; decide) (by omega) (ht.le (by decide))
  | 3, hk, _, _ => c_Srise l X K r t h i rc w f hi (by rw [hk]; decide) (by omega) (ht.le (by decide))
  | 4, hk, _, _ => c_Brise l X K r t h i rc w f hi (by rw [hk]; decide) (by omega) (ht.le (by decide))
  | 5, hk, _, _ => c_Drise l X K r t h i rc w f hi (by rw [hk]; decide) (by omega) (ht.le (by decide))
  | 6, hk, _, _ => c_Urise l X K r t h i rc w f hi (by rw [hk]; decide) (by omega) (ht.le (by decide))
set_option maxHeartbeats 4000000 in
set_option maxRecDepth 100000 in
theorem c_Rneed3 (l : Launch) (X : Cx) (K : KT) (r : Bool) (t : Tr) (h i : Nat) (rc : Rc) (f : Nat) (hi : (kP K)[i]? = some (h, dE (kA K 3) rc)) (hk : kd rc = 3) (hf : 4 ≤ f) (ht : tR r 5 t) : cI l yX3_need cX3_need 2 (some .int) (rl f) X [.ref h] (wT X K r t) (fun v w' => v = needV 3 (rc 1) ∧ w' = wT X K r (te r (needT 3) t)) := by
  refine met_start (by decide) (Nat.le_of_ble_eq_true rfl) ?_
  intro p e s m below meth c ls fx hS hl
  obtain ⟨hx, hb, hr, hml, hown, hG, hlk, hF, hz, hnm⟩ := fx
  have hown : s.vm.findClass RX3 = some m.cls := hown
  have hl : lv_has ls 2 [(0, .ref h)] := hl
  have hk7 : kd rc < 7 := by rw [hk]; decide
  have hc : classes[kd rc]? = some (RX3, TD, 8) := by rw [hk]; rfl
  refine lv_aload_n hx hb dX3_need_0 rfl (lv_at hl 0 rfl) ?_
  refine m_get hx hb hG hown hF hS (i + 15) (wT_at hi) (kd_cls hk7).1 (kd_cls hk7).2 2 (by decide) kw_109 (sf_Rye hG) rfl dX3_need_1 ?_
  refine lv_bipush (v := 13) hx hb dX3_need_4 (by decide) ?_
  refine m_cv (m_runV (n := 1) (rest := []) ⟨hx, hb, hml, hown, hG⟩ (c_leave l X K r t 13 0 (ht.le (by decide))) kw_280 kw_249 kw_250 kw_19 kw_251 (by decide +kernel) (rl_ok (by omega) (by decide)) hF hz hS (q0 := 13) rfl rfl rfl hl.1 rfl (Nat.le_of_ble_eq_true rfl) dX3_need_6 ⟨Nat.le_refl 0, Nat.le_refl 0⟩) hS (fun w1 H locs hw1 hS => ?_)
  subst hw1
  refine lv_aload_n hx hb dX3_need_9 rfl (lv_at hl 0 rfl) ?_
  refine m_ci (m_runSU (x := ⟨RX4, "need", "()I"⟩) (n := 0) (rest := []) ⟨hx, hb, hml, hown, hG⟩ (c_Yneed l X K r (te r [13] t) h i rc 2 hi hk7 (by decide) (ht.step (by decide))) kw_281 kw_282 kw_169 kw_284 kw_22 kw_285 (sub_Sour_Yeast hG hF) ⟨rfl, rfl⟩ (by decide +kernel) (rl_ok (by omega) (by decide)) hF hz hS (q0 := i + 15) (wT_at hi) (kd_cls hk7).1 rfl hl.1 rfl (Nat.le_of_ble_eq_true rfl) dX3_need_10 ⟨Nat.le_refl 0, Nat.le_refl 0⟩) hS (fun r_1 w2 H locs hw2 hS => ?_)
  obtain ⟨rfl, rfl⟩ := hw2
  rw [te_te] at hS
  refine lv_istore_n (lv' := [(1, .int (100 + rc 1 / 10 + 50)), (0, .ref h)]) hx hb dX3_need_13 rfl hl (by decide) rfl (fun ls hl => ?_)
  refine lv_iload_n hx hb dX3_need_14 rfl (lv_at hl 0 rfl) ?_
  refine lv_aload_n hx hb dX3_need_15 rfl (lv_at hl 1 rfl) ?_
  refine lv_bipush (v := 20) hx hb dX3_need_16 (by decide) ?_
  refine m_ci (m_runU (x := ⟨RX3, "rise", "(I)I"⟩) (owner := "DoughRoom$Sour") (n := 1) (rest := [.int (100 + rc 1 / 10 + 50)]) ⟨hx, hb, hml, hown, hG⟩ (c_Srise l X K r (te r [13, 12, 11] t) h i rc 20 3 hi hk7 (by decide) (ht.step (by decide))) kw_288 kw_253 kw_255 kw_256 kw_255 kw_290 kw_23 kw_256 (by decide +kernel) (rl_ok (by omega) (by decide)) hF hz hS (q0 := i + 15) (wT_at hi) hc rfl hl.1 rfl (Nat.le_of_ble_eq_true rfl) dX3_need_18 ⟨Nat.le_refl 0, Nat.le_refl 0⟩) hS (fun r_2 w3 H locs hw3 hS => ?_)
  obtain ⟨rfl, rfl⟩ := hw3
  rw [te_te] at hS
  refine lv_iadd hx hb dX3_need_21 ?_
  exact m_iret hx hb hr hlk hS ⟨rfl, rfl⟩ (Nat.le_refl 0) (Nat.le_refl 0) dX3_need_22
set_option maxHeartbeats 4000000 in
set_option maxRecDepth 100000 in
theorem c_Rneed4 (l : Launch) (X : Cx) (K : KT) (r : Bool) (t : Tr) (h i : Nat) (rc : Rc) (f : Nat) (hi : (kP K)[i]? = some (h, dE (kA K 3) rc)) (hk : kd rc = 4) (hf : 4 ≤ f) (ht : tR r 6 t) : cI l yX3_need cX3_need 2 (some .int) (rl f) X [.ref h] (wT X K r t) (fun v w' => v = needV 4 (rc 1) ∧ w' = wT X K r (te r (needT 4) t)) := by
  refine met_start (by decide) (Nat.le_of_ble_eq_true rfl) ?_
  intro p e s m below meth c ls fx hS hl
  obtain ⟨hx, hb, hr, hml, hown, hG, hlk, hF, hz, hnm⟩ := fx
  have hown : s.vm.findClass RX3 = some m.cls := hown
  have hl : lv_has ls 2 [(0, .ref h)] := hl
  have hk7 : kd rc < 7 := by rw [hk]; decide
  have hc : classes[kd rc]? = some (RX0, TD, 8) := by rw [hk]; rfl
  refine lv_aload_n hx hb dX3_need_0 rfl (lv_at hl 0 rfl) ?_
  refine m_get hx hb hG hown hF hS (i + 15) (wT_at hi) (kd_cls hk7).1 (kd_cls hk7).2 2 (by decide) kw_109 (sf_Rye hG) rfl dX3_need_1 ?_
  refine lv_bipush (v := 13) hx hb dX3_need_4 (by decide) ?_
  refine m_cv (m_runV (n := 1) (rest := []) ⟨hx, hb, hml, hown, hG⟩ (c_leave l X K r t 13 0 (ht.le (by decide))) kw_280 kw_249 kw_250 kw_19 kw_251 (by decide +kernel) (rl_ok (by omega) (by decide)) hF hz hS (q0 := 13) rfl rfl rfl hl.1 rfl (Nat.le_of_ble_eq_true rfl) dX3_need_6 ⟨Nat.le_refl 0, Nat.le_refl 0⟩) hS (fun w1 H locs hw1 hS => ?_)
  subst hw1
  refine lv_aload_n hx hb dX3_need_9 rfl (lv_at hl 0 rfl) ?_
  refine m_ci (m_runSU (x := ⟨RX4, "need", "()I"⟩) (n := 0) (rest := []) ⟨hx, hb, hml, hown, hG⟩ (c_Yneed l X K r (te r [13] t) h i rc 2 hi hk7 (by decide) (ht.step (by decide))) kw_281 kw_282 kw_169 kw_284 kw_22 kw_285 (sub_Sour_Yeast hG hF) ⟨rfl, rfl⟩ (by decide +kernel) (rl_ok (by omega) (by decide)) hF hz hS (q0 := i + 15) (wT_at hi) (kd_cls hk7).1 rfl hl.1 rfl (Nat.le_of_ble_eq_true rfl) dX3_need_10 ⟨Nat.le_refl 0, Nat.le_refl 0⟩) hS (fun r_1 w2 H locs hw2 hS => ?_)
  obtain ⟨rfl, rfl⟩ := hw2
  rw [te_te] at hS
  refine lv_istore_n (lv' := [(1, .int (100 + rc 1 / 10 + 50)), (0, .ref h)]) hx hb dX3_need_13 rfl hl (by decide) rfl (fun ls hl => ?_)
  refine lv_iload_n hx hb dX3_need_14 rfl (lv_at hl 0 rfl) ?_
  refine lv_aload_n hx hb dX3_need_15 rfl (lv_at hl 1 rfl) ?_
  refine lv_bipush (v := 20) hx hb dX3_need_16 (by decide) ?_
  refine m_ci (m_runU (x := ⟨RX3, "rise", "(I)I"⟩) (owner := "DoughRoom$Sour") (n := 1) (rest := [.int (100 + rc 1 / 10 + 50)]) ⟨hx, hb, hml, hown, hG⟩ (c_Brise l X K r (te r [13, 12, 11] t) h i rc 20 3 hi hk7 (by decide) (ht.step (by decide))) kw_288 kw_253 kw_255 kw_256 kw_246 kw_289 kw_25 kw_247 (by decide +kernel) (rl_ok (by omega) (by decide)) hF hz hS (q0 := i + 15) (wT_at hi) hc rfl hl.1 rfl (Nat.le_of_ble_eq_true rfl) dX3_need_18 ⟨Nat.le_refl 0, Nat.le_refl 0⟩) hS (fun r_2 w3 H locs hw3 hS => ?_)
  obtain ⟨rfl, rfl⟩ := hw3
  rw [te_te] at hS
  refine lv_iadd hx hb dX3_need_21 ?_
  exact m_iret hx hb hr hlk hS ⟨rfl, rfl⟩ (Nat.le_refl 0) (Nat.le_refl 0) dX3_need_22
def yNeed (k : Nat) : MethodName := match k with
  | 0 => yX2_need
  | 1 => yX7_need
  | 2 => yX7_need
  | 3 => yX3_need
  | 4 => yX3_need
  | 5 => yX2_need
  | _ => yX2_need
def bNeed (k : Nat) : ByteArray := match k with
  | 0 => cX2_need
  | 1 => cX7_need
  | 2 => cX7_need
  | 3 => cX3_need
  | 4 => cX3_need
  | 5 => cX2_need
  | _ => cX2_need
def nNeed (k : Nat) : Nat := match k with
  | 0 => 1
  | 1 => 1
  | 2 => 1
  | 3 => 2
  | 4 => 2
  | 5 => 1
  | _ => 1
theorem fam_need (k : Nat) (h1 : 0 ≤ k) (h2 : k < 7) : Cond.selects (RD k) yX2_need (yNeed k) ∈ G ∧ Cond.instanceMethod (yNeed k) ∈ G ∧ Cond.initialized (yNeed k).cls ∈ G ∧ Cond.code (yNeed k) (bNeed k) (nNeed k) (some .int) ∈ G ∧ nNeed k ≤ 8 :=
  match k, h1, h2 with
  | 0, _, _ => ⟨kw_275, kw_274, kw_21, kw_296, by decide⟩
  | 1, _, _ => ⟨kw_295, kw_284, kw_22, kw_285, by decide⟩
  | 2, _, _ => ⟨kw_293, kw_284, kw_22, kw_285, by decide⟩
  | 3, _, _ => ⟨kw_292, kw_278, kw_24, kw_279, by decide⟩
  | 4, _, _ => ⟨kw_277, kw_278, kw_24, kw_279, by decide⟩
  | 5, _, _ => ⟨kw_294, kw_274, kw_21, kw_296, by decide⟩
  | 6, _, _ => ⟨kw_291, kw_274, kw_21, kw_296, by decide⟩
set_option maxHeartbeats 4000000 in
set_option maxRecDepth 100000 in
theorem f_need (l : Launch) (X : Cx) (K : KT) (r : Bool) (t : Tr) (h i : Nat) (rc : Rc) (k : Nat) (f : Nat) (hi : (kP K)[i]? = some (h, dE (kA K 3) rc)) (hk : kd rc = k) (h1 : 0 ≤ k) (h2 : k < 7) (hf : 4 ≤ f) (ht : tR r 6 t) : cI l (yNeed k) (bNeed k) (nNeed k) (some .int) (rl f) X [.ref h] (wT X K r t) (fun v w' => v = needV k (rc 1) ∧ w' = wT X K r (te r (needT k) t)) :=
  match k, hk, h1, h2 with
  | 0, hk, _, _ => c_Dneed l X K r t h i rc f hi (by rw [hk]; decide) (by omega) (ht.le (by decide))
  | 1, hk, _, _ => c_Yneed l X K r t h i rc f hi (by rw [hk]; decide) (by omega) (ht.le (by decide))
  | 2, hk, _, _ => c_Yneed l X K r t h i rc f hi (by rw [hk]; decide) (by omega) (ht.le (by decide))
  | 3, hk, _, _ => c_Rneed3 l X K r t h i rc f hi hk (by omega) (ht.le (by decide))
  | 4, hk, _, _ => c_Rneed4 l X K r t h i rc f hi hk (by omega) (ht.le (by decide))
  | 5, hk, _, _ => c_Dneed l X K r t h i rc f hi (by rw [hk]; decide) (by omega) (ht.le (by decide))
  | 6, hk, _, _ => c_Dneed l X K r t h i rc f hi (by rw [hk]; decide) (by omega) (ht.le (by decide))
def yBrown (k : Nat) : MethodName := match k with
  | 0 => yX2_brown
  | 1 => yX2_brown
  | 2 => yX2_brown
  | 3 => yX2_brown
  | 4 => yX0_brown
  | 5 => yX5_brown
  | _ => yX5_brown
def bBrown (k : Nat) : ByteArray := match k with
  | 0 => cX2_brown
  | 1 => cX2_brown
  | 2 => cX2_brown
  | 3 => cX2_brown
  | 4 => cX0_brown
  | 5 => cX5_brown
  | _ => cX5_brown
def nBrown (k : Nat) : Nat := match k with
  | 0 => 2
  | 1 => 2
  | 2 => 2
  | 3 => 2
  | 4 => 2
  | 5 => 2
  | _ => 2
theorem fam_brown (k : Nat) (h1 : 0 ≤ k) (h2 : k < 7) : Cond.selects (RD k) yX2_brown (yBrown k) ∈ G ∧ Cond.instanceMethod (yBrown k) ∈ G ∧ Cond.initialized (yBrown k).cls ∈ G ∧ Cond.code (yBrown k) (bBrown k) (nBrown k) (some .int) ∈ G ∧ nBrown k ≤ 8 :=
  match k, h1, h2 with
  | 0, _, _ => ⟨kw_299, kw_298, kw_21, kw_316, by decide⟩
  | 1, _, _ => ⟨kw_315, kw_298, kw_21, kw_316, by decide⟩
  | 2, _, _ => ⟨kw_313, kw_298, kw_21, kw_316, by decide⟩
  | 3, _, _ => ⟨kw_312, kw_298, kw_21, kw_316, by decide⟩
  | 4, _, _ => ⟨kw_301, kw_302, kw_25, kw_303, by decide⟩
  | 5, _, _ => ⟨kw_314, kw_308, kw_26, kw_309, by decide⟩
  | 6, _, _ => ⟨kw_307, kw_308, kw_26, kw_309, by decide⟩
set_option maxHeartbeats 4000000 in
set_option maxRecDepth 100000 in
theorem f_brown (l : Launch) (X : Cx) (K : KT) (r : Bool) (t : Tr) (h i : Nat) (rc : Rc) (k : Nat) (w : Int32) (f : Nat) (hi : (kP K)[i]? = some (h, dE (kA K 3) rc)) (hk : kd rc = k) (h1 : 0 ≤ k) (h2 : k < 7) (hf : 2 ≤ f) (ht : tR r 2 t) : cI l (yBrown k) (bBrown k) (nBrown k) (some .int) (rl f) X [.ref h, .int w] (wT X K r t) (fun v w' => v = brownV k w ∧ w' = wT X K r (te r (brownT k) t)) :=
  match k, hk, h1, h2 with
  | 0, hk, _, _ => c_Dbrown l X K r t h i rc w f hi (by rw [hk]; decide) (by omega) (ht.le (by decide))
  | 1, hk, _, _ => c_Dbrown l X K r t h i rc w f hi (by rw [hk]; decide) (by omega) (ht.le (by decide))
  | 2, hk, _, _ => c_Dbrown l X K r t h i rc w f hi (by rw [hk]; decide) (by omega) (ht.le (by decide))
  | 3, hk, _, _ => c_Dbrown l X K r t h i rc w f hi (by rw [hk]; decide) (by omega) (ht.le (by decide))
  | 4, hk, _, _ => c_Bbrown l X K r t h i rc w f hi (by rw [hk]; decide) (by omega) (ht.le (by decide))
  | 5, hk, _, _ => c_Wbrown l X K r t h i rc w f hi (by rw [hk]; decide) (by omega) (ht.le (by decide))
  | 6, hk, _, _ => c_Wbrown l X K r t h i rc w f hi (by rw [hk]; decide) (by omega) (ht.le (by decide))
set_option maxHeartbeats 4000000 in
set_option maxRecDepth 100000 in
theorem c_Bprice (l : Launch) (X : Cx) (K : KT) (r : Bool) (t : Tr) (h i : Nat) (rc : Rc) (f : Nat) (hi : (kP K)[i]? = some (h, dE (kA K 3) rc)) (hk : kd rc = 4) (hf : 5 ≤ f) (ht : tR r 9 t) : cI l yX0_price cX0_price 2 (some .int) (rl f) X [.ref h] (wT X K r t) (fun v w' => v = priceV 4 (rc 1) ∧ w' = wT X K r (te r (priceT 4) t)) := by
  refine met_start (by decide) (Nat.le_of_ble_eq_true rfl) ?_
  intro p e s m below meth c ls fx hS hl
  obtain ⟨hx, hb, hr, hml, hown, hG, hlk, hF, hz, hnm⟩ := fx
  have hown : s.vm.findClass RX0 = some m.cls := hown
  have hl : lv_has ls 2 [(0, .ref h)] := hl
  have hk7 : kd rc < 7 := by rw [hk]; decide
  have hc : classes[kd rc]? = some (RX0, TD, 8) := by rw [hk]; rfl
  refine lv_aload_n hx hb dX0_price_0 rfl (lv_at hl 0 rfl) ?_
  refine m_get hx hb hG hown hF hS (i + 15) (wT_at hi) (kd_cls hk7).1 (kd_cls hk7).2 2 (by decide) kw_103 (sf_Black hG) rfl dX0_price_1 ?_
  refine lv_bipush (v := 33) hx hb dX0_price_4 (by decide) ?_
  refine m_cv (m_runV (n := 1) (rest := []) ⟨hx, hb, hml, hown, hG⟩ (c_leave l X K r t 33 0 (ht.le (by decide))) kw_248 kw_249 kw_250 kw_19 kw_251 (by decide +kernel) (rl_ok (by omega) (by decide)) hF hz hS (q0 := 13) rfl rfl rfl hl.1 rfl (Nat.le_of_ble_eq_true rfl) dX0_price_6 ⟨Nat.le_refl 0, Nat.le_refl 0⟩) hS (fun w1 H locs hw1 hS => ?_)
  subst hw1
  refine lv_aload_n hx hb dX0_price_9 rfl (lv_at hl 0 rfl) ?_
  refine m_ci (m_runSU (x := yX3_price) (n := 0) (rest := []) ⟨hx, hb, hml, hown, hG⟩ (c_Rprice l X K r (te r [33] t) h i rc 2 hi hk7 (by decide) (ht.step (by decide))) kw_324 kw_618 kw_184 kw_325 kw_24 kw_326 (sub_Rye_Rye hG hF) ⟨rfl, rfl⟩ (by decide +kernel) (rl_ok (by omega) (by decide)) hF hz hS (q0 := i + 15) (wT_at hi) (kd_cls hk7).1 rfl hl.1 rfl (Nat.le_of_ble_eq_true rfl) dX0_price_10 ⟨Nat.le_refl 0, Nat.le_refl 0⟩) hS (fun r_1 w2 H locs hw2 hS => ?_)
  obtain ⟨rfl, rfl⟩ := hw2
  rw [te_te] at hS
  refine lv_istore_n (lv' := [(1, .int (10 + rc 1 / 5 + 40)), (0, .ref h)]) hx hb dX0_price_13 rfl hl (by decide) rfl (fun ls hl => ?_)
  refine lv_iload_n hx hb dX0_price_14 rfl (lv_at hl 0 rfl) ?_
  refine lv_aload_n hx hb dX0_price_15 rfl (lv_at hl 1 rfl) ?_
  refine m_ci (m_runU (x := ⟨RX0, "need", "()I"⟩) (owner := "DoughRoom$Rye") (n := 0) (rest := [.int (10 + rc 1 / 5 + 40)]) ⟨hx, hb, hml, hown, hG⟩ (c_Rneed4 l X K r (te r [33, 32, 31] t) h i rc 4 hi hk (by decide) (ht.step (by decide))) kw_330 kw_331 kw_278 kw_279 kw_278 kw_333 kw_24 kw_279 (by decide +kernel) (rl_ok (by omega) (by decide)) hF hz hS (q0 := i + 15) (wT_at hi) hc rfl hl.1 rfl (Nat.le_of_ble_eq_true rfl) dX0_price_16 ⟨Nat.le_refl 0, Nat.le_refl 0⟩) hS (fun r_2 w3 H locs hw3 hS => ?_)
  obtain ⟨rfl, rfl⟩ := hw3
  rw [te_te] at hS
  refine lv_iadd hx hb dX0_price_19 ?_
  exact m_iret hx hb hr hlk hS ⟨rfl, rfl⟩ (Nat.le_refl 0) (Nat.le_refl 0) dX0_price_20
def yPrice (k : Nat) : MethodName := match k with
  | 0 => yX2_price
  | 1 => yX2_price
  | 2 => yX2_price
  | 3 => yX3_price
  | 4 => yX0_price
  | 5 => yX2_price
  | _ => yX1_price
def bPrice (k : Nat) : ByteArray := match k with
  | 0 => cX2_price
  | 1 => cX2_price
  | 2 => cX2_price
  | 3 => cX3_price
  | 4 => cX0_price
  | 5 => cX2_price
  | _ => cX1_price
def nPrice (k : Nat) : Nat := match k with
  | 0 => 1
  | 1 => 1
  | 2 => 1
  | 3 => 1
  | 4 => 2
  | 5 => 1
  | _ => 1
theorem fam_price (k : Nat) (h1 : 0 ≤ k) (h2 : k < 7) : Cond.selects (RD k) yX2_price (yPrice k) ∈ G ∧ Cond.instanceMethod (yPrice k) ∈ G ∧ Cond.initialized (yPrice k).cls ∈ G ∧ Cond.code (yPrice k) (bPrice k) (nPrice k) (some .int) ∈ G ∧ nPrice k ≤ 8 :=
  match k, h1, h2 with
  | 0, _, _ => ⟨kw_319, kw_318, kw_21, kw_343, by decide⟩
  | 1, _, _ => ⟨kw_342, kw_318, kw_21, kw_343, by decide⟩
  | 2, _, _ => ⟨kw_340, kw_318, kw_21, kw_343, by decide⟩
  | 3, _, _ => ⟨kw_339, kw_325, kw_24, kw_326, by decide⟩
  | 4, _, _ => ⟨kw_321, kw_322, kw_25, kw_323, by decide⟩
  | 5, _, _ => ⟨kw_341, kw_318, kw_21, kw_343, by decide⟩
  | 6, _, _ => ⟨kw_334, kw_335, kw_27, kw_336, by decide⟩
set_option maxHeartbeats 4000000 in
set_option maxRecDepth 100000 in
theorem f_price (l : Launch) (X : Cx) (K : KT) (r : Bool) (t : Tr) (h i : Nat) (rc : Rc) (k : Nat) (f : Nat) (hi : (kP K)[i]? = some (h, dE (kA K 3) rc)) (hk : kd rc = k) (h1 : 0 ≤ k) (h2 : k < 7) (hf : 5 ≤ f) (ht : tR r 9 t) : cI l (yPrice k) (bPrice k) (nPrice k) (some .int) (rl f) X [.ref h] (wT X K r t) (fun v w' => v = priceV k (rc 1) ∧ w' = wT X K r (te r (priceT k) t)) :=
  match k, hk, h1, h2 with
  | 0, hk, _, _ => c_Dprice l X K r t h i rc f hi (by rw [hk]; decide) (by omega) (ht.le (by decide))
  | 1, hk, _, _ => c_Dprice l X K r t h i rc f hi (by rw [hk]; decide) (by omega) (ht.le (by decide))
  | 2, hk, _, _ => c_Dprice l X K r t h i rc f hi (by rw [hk]; decide) (by omega) (ht.le (by decide))
  | 3, hk, _, _ => c_Rprice l X K r t h i rc f hi (by rw [hk]; decide) (by omega) (ht.le (by decide))
  | 4, hk, _, _ => c_Bprice l X K r t h i rc f hi hk (by omega) (ht.le (by decide))
  | 5, hk, _, _ => c_Dprice l X K r t h i rc f hi (by rw [hk]; decide) (by omega) (ht.le (by decide))
  | 6, hk, _, _ => c_Uprice l X K r t h i rc f hi (by rw [hk]; decide) (by omega) (ht.le (by decide))
set_option maxHeartbeats 4000000 in
set_option maxRecDepth 100000 in
theorem c_Skeeps2 (l : Launch) (X : Cx) (K : KT) (r : Bool) (t : Tr) (h i : Nat) (rc : Rc) (f : Nat) (hi : (kP K)[i]? = some (h, dE (kA K 3) rc)) (hk : kd rc = 2) (hf : 5 ≤ f) (ht : tR r 3 t) : cI l yX4_keeps cX4_keeps 1 (some .int) (rl f) X [.ref h] (wT X K r t) (fun v w' => v = keepsV 2 (rc 1) ∧ w' = wT X K r (te r (keepsT 2) t)) := by
  refine met_start (by decide) (Nat.le_of_ble_eq_true rfl) ?_
  intro p e s m below meth c ls fx hS hl
  obtain ⟨hx, hb, hr, hml, hown, hG, hlk, hF, hz, hnm⟩ := fx
  have hown : s.vm.findClass RX4 = some m.cls := hown
  have hl : lv_has ls 1 [(0, .ref h)] := hl
  have hk7 : kd rc < 7 := by rw [hk]; decide
  have hc : classes[kd rc]? = some (RX4, TD, 8) := by rw [hk]; rfl
  refine lv_aload_n hx hb dX4_keeps_0 rfl (lv_at hl 0 rfl) ?_
  refine m_get hx hb hG hown hF hS (i + 15) (wT_at hi) (kd_cls hk7).1 (kd_cls hk7).2 2 (by decide) kw_105 (sf_Sour hG) rfl dX4_keeps_1 ?_
  refine lv_bipush (v := 41) hx hb dX4_keeps_4 (by decide) ?_
  refine m_cv (m_runV (n := 1) (rest := []) ⟨hx, hb, hml, hown, hG⟩ (c_leave l X K r t 41 0 (ht.le (by decide))) kw_257 kw_249 kw_250 kw_19 kw_251 (by decide +kernel) (rl_ok (by omega) (by decide)) hF hz hS (q0 := 13) rfl rfl rfl hl.1 rfl (Nat.le_of_ble_eq_true rfl) dX4_keeps_6 ⟨Nat.le_refl 0, Nat.le_refl 0⟩) hS (fun w1 H locs hw1 hS => ?_)
  subst hw1
  refine lv_iconst (v := 1) hx hb dX4_keeps_9 (by decide) ?_
  refine lv_aload_n hx hb dX4_keeps_10 rfl (lv_at hl 0 rfl) ?_
  refine m_ci (m_runU (x := ⟨RX4, "need", "()I"⟩) (owner := "DoughRoom$Yeast") (n := 0) (rest := [.int 1]) ⟨hx, hb, hml, hown, hG⟩ (c_Yneed l X K r (te r [41] t) h i rc 4 hi hk7 (by decide) (ht.step (by decide))) kw_354 kw_282 kw_284 kw_285 kw_284 kw_357 kw_22 kw_285 (by decide +kernel) (rl_ok (by omega) (by decide)) hF hz hS (q0 := i + 15) (wT_at hi) hc rfl hl.1 rfl (Nat.le_of_ble_eq_true rfl) dX4_keeps_11 ⟨Nat.le_refl 0, Nat.le_refl 0⟩) hS (fun r_1 w2 H locs hw2 hS => ?_)
  obtain ⟨rfl, rfl⟩ := hw2
  rw [te_te] at hS
  refine lv_bipush (v := 100) hx hb dX4_keeps_14 (by decide) ?_
  refine lv_idiv hx hb dX4_keeps_16 (by decide) ?_
  refine lv_iadd hx hb dX4_keeps_17 ?_
  exact m_iret hx hb hr hlk hS ⟨rfl, rfl⟩ (Nat.le_refl 0) (Nat.le_refl 0) dX4_keeps_18
set_option maxHeartbeats 4000000 in
set_option maxRecDepth 100000 in
theorem c_Skeeps3 (l : Launch) (X : Cx) (K : KT) (r : Bool) (t : Tr) (h i : Nat) (rc : Rc) (f : Nat) (hi : (kP K)[i]? = some (h, dE (kA K 3) rc)) (hk : kd rc = 3) (hf : 5 ≤ f) (ht : tR r 6 t) : cI l yX4_keeps cX4_keeps 1 (some .int) (rl f) X [.ref h] (wT X K r t) (fun v w' => v = keepsV 3 (rc 1) ∧ w' = wT X K r (te r (keepsT 3) t)) := by
  refine met_start (by decide) (Nat.le_of_ble_eq_true rfl) ?_
  intro p e s m below meth c ls fx hS hl
  obtain ⟨hx, hb, hr, hml, hown, hG, hlk, hF, hz, hnm⟩ := fx
  have hown : s.vm.findClass RX4 = some m.cls := hown
  have hl : lv_has ls 1 [(0, .ref h)] := hl
  have hk7 : kd rc < 7 := by rw [hk]; decide
  have hc : classes[kd rc]? = some (RX3, TD, 8) := by rw [hk]; rfl
  refine lv_aload_n hx hb dX4_keeps_0 rfl (lv_at hl 0 rfl) ?_
  refine m_get hx hb hG hown hF hS (i + 15) (wT_at hi) (kd_cls hk7).1 (kd_cls hk7).2 2 (by decide) kw_105 (sf_Sour hG) rfl dX4_keeps_1 ?_
  refine lv_bipush (v := 41) hx hb dX4_keeps_4 (by decide) ?_
  refine m_cv (m_runV (n := 1) (rest := []) ⟨hx, hb, hml, hown, hG⟩ (c_leave l X K r t 41 0 (ht.le (by decide))) kw_257 kw_249 kw_250 kw_19 kw_251 (by decide +kernel) (rl_ok (by omega) (by decide)) hF hz hS (q0 := 13) rfl rfl rfl hl.1 rfl (Nat.le_of_ble_eq_true rfl) dX4_keeps_6 ⟨Nat.le_refl 0, Nat.le_refl 0⟩) hS (fun w1 H locs hw1 hS => ?_)
  subst hw1
  refine lv_iconst (v := 1) hx hb dX4_keeps_9 (by decide) ?_
  refine lv_aload_n hx hb dX4_keeps_10 rfl (lv_at hl 0 rfl) ?_
  refine m_ci (m_runU (x := ⟨RX4, "need", "()I"⟩) (owner := "DoughRoom$Yeast") (n := 0) (rest := [.int 1]) ⟨hx, hb, hml, hown, hG⟩ (c_Rneed3 l X K r (te r [41] t) h i rc 4 hi hk (by decide) (ht.step (by decide))) kw_354 kw_282 kw_284 kw_285 kw_278 kw_356 kw_24 kw_279 (by decide +kernel) (rl_ok (by omega) (by decide)) hF hz hS (q0 := i + 15) (wT_at hi) hc rfl hl.1 rfl (Nat.le_of_ble_eq_true rfl) dX4_keeps_11 ⟨Nat.le_refl 0, Nat.le_refl 0⟩) hS (fun r_1 w2 H locs hw2 hS => ?_)
  obtain ⟨rfl, rfl⟩ := hw2
  rw [te_te] at hS
  refine lv_bipush (v := 100) hx hb dX4_keeps_14 (by decide) ?_
  refine lv_idiv hx hb dX4_keeps_16 (by decide) ?_
  refine lv_iadd hx hb dX4_keeps_17 ?_
  exact m_iret hx hb hr hlk hS ⟨rfl, rfl⟩ (Nat.le_refl 0) (Nat.le_refl 0) dX4_keeps_18
set_option maxHeartbeats 4000000 in
set_option maxRecDepth 100000 in
theorem c_Bkeeps (l : Launch) (X : Cx) (K : KT) (r : Bool) (t : Tr) (h i : Nat) (rc : Rc) (f : Nat) (hi : (kP K)[i]? = some (h, dE (kA K 3) rc)) (hk : kd rc = 4) (hf : 6 ≤ f) (ht : tR r 10 t) : cI l yX0_keeps cX0_keeps 1 (some .int) (rl f) X [.ref h] (wT X K r t) (fun v w' => v = keepsV 4 (rc 1) ∧ w' = wT X K r (te r (keepsT 4) t)) := by
  refine met_start (by decide) (Nat.le_of_ble_eq_true rfl) ?_
  intro p e s m below meth c ls fx hS hl
  obtain ⟨hx, hb, hr, hml, hown, hG, hlk, hF, hz, hnm⟩ := fx
  have hown : s.vm.findClass RX0 = some m.cls := hown
  have hl : lv_has ls 1 [(0, .ref h)] := hl
  have hk7 : kd rc < 7 := by rw [hk]; decide
  have hc : classes[kd rc]? = some (RX0, TD, 8) := by rw [hk]; rfl
  refine lv_aload_n hx hb dX0_keeps_0 rfl (lv_at hl 0 rfl) ?_
  refine m_get hx hb hG hown hF hS (i + 15) (wT_at hi) (kd_cls hk7).1 (kd_cls hk7).2 2 (by decide) kw_103 (sf_Black hG) rfl dX0_keeps_1 ?_
  refine lv_bipush (v := 42) hx hb dX0_keeps_4 (by decide) ?_
  refine m_cv (m_runV (n := 1) (rest := []) ⟨hx, hb, hml, hown, hG⟩ (c_leave l X K r t 42 0 (ht.le (by decide))) kw_248 kw_249 kw_250 kw_19 kw_251 (by decide +kernel) (rl_ok (by omega) (by decide)) hF hz hS (q0 := 13) rfl rfl rfl hl.1 rfl (Nat.le_of_ble_eq_true rfl) dX0_keeps_6 ⟨Nat.le_refl 0, Nat.le_refl 0⟩) hS (fun w1 H locs hw1 hS => ?_)
  subst hw1
  refine lv_aload_n hx hb dX0_keeps_9 rfl (lv_at hl 0 rfl) ?_
  refine m_ci (m_runV (n := 0) (rest := []) ⟨hx, hb, hml, hown, hG⟩ (c_Bprice l X K r (te r [42] t) h i rc 5 hi hk (by decide) (ht.step (by decide))) kw_351 kw_322 kw_619 kw_25 kw_323 (by decide +kernel) (rl_ok (by omega) (by decide)) hF hz hS (q0 := i + 15) (wT_at hi) hc rfl hl.1 rfl (Nat.le_of_ble_eq_true rfl) dX0_keeps_10 ⟨Nat.le_refl 0, Nat.le_refl 0⟩) hS (fun r_1 w2 H locs hw2 hS => ?_)
  obtain ⟨rfl, rfl⟩ := hw2
  rw [te_te] at hS
  refine lv_bipush (v := 50) hx hb dX0_keeps_13 (by decide) ?_
  refine lv_idiv hx hb dX0_keeps_15 (by decide) ?_
  refine lv_iconst (v := 2) hx hb dX0_keeps_16 (by decide) ?_
  refine lv_iadd hx hb dX0_keeps_17 ?_
  exact m_iret hx hb hr hlk hS ⟨rfl, rfl⟩ (Nat.le_refl 0) (Nat.le_refl 0) dX0_keeps_18
set_option maxHeartbeats 4000000 in
set_option maxRecDepth 100000 in
theorem c_Wglaze (l : Launch) (X : Cx) (K : KT) (r : Bool) (t : Tr) (h i : Nat) (rc : Rc) (f : Nat) (hi : (kP K)[i]? = some (h, dE (kA K 3) rc)) (hk : kd rc = 5) (hf : 3 ≤ f) (ht : tR r 2 t) : cI l yX5_glaze cX5_glaze 1 (some .int) (rl f) X [.ref h] (wT X K r t) (fun v w' => v = glazeV 5 (rc 1) ∧ w' = wT X K r (te r (glazeT 5) t)) := by
  refine met_start (by decide) (Nat.le_of_ble_eq_true rfl) ?_
  intro p e s m below meth c ls fx hS hl
  obtain ⟨hx, hb, hr, hml, hown, hG, hlk, hF, hz, hnm⟩ := fx
  have hown : s.vm.findClass RX5 = some m.cls := hown
  have hl : lv_has ls 1 [(0, .ref h)] := hl
  have hk7 : kd rc < 7 := by rw [hk]; decide
  have hc : classes[kd rc]? = some (RX5, TD, 8) := by rw [hk]; rfl
  refine lv_aload_n hx hb dX5_glaze_0 rfl (lv_at hl 0 rfl) ?_
  refine m_get hx hb hG hown hF hS (i + 15) (wT_at hi) (kd_cls hk7).1 (kd_cls hk7).2 2 (by decide) kw_113 (sf_Sweet hG) rfl dX5_glaze_1 ?_
  refine lv_bipush (v := 51) hx hb dX5_glaze_4 (by decide) ?_
  refine m_cv (m_runV (n := 1) (rest := []) ⟨hx, hb, hml, hown, hG⟩ (c_leave l X K r t 51 0 (ht.le (by decide))) kw_310 kw_249 kw_250 kw_19 kw_251 (by decide +kernel) (rl_ok (by omega) (by decide)) hF hz hS (q0 := 13) rfl rfl rfl hl.1 rfl (Nat.le_of_ble_eq_true rfl) dX5_glaze_6 ⟨Nat.le_refl 0, Nat.le_refl 0⟩) hS (fun w1 H locs hw1 hS => ?_)
  subst hw1
  refine lv_aload_n hx hb dX5_glaze_9 rfl (lv_at hl 0 rfl) ?_
  refine m_ci (m_runU (x := ⟨RX5, "price", "()I"⟩) (owner := "DoughRoom$Dough") (n := 0) (rest := []) ⟨hx, hb, hml, hown, hG⟩ (c_Dprice l X K r (te r [51] t) h i rc 2 hi hk7 (by decide) (ht.step (by decide))) kw_370 kw_338 kw_318 kw_343 kw_318 kw_372 kw_21 kw_343 (by decide +kernel) (rl_ok (by omega) (by decide)) hF hz hS (q0 := i + 15) (wT_at hi) hc rfl hl.1 rfl (Nat.le_of_ble_eq_true rfl) dX5_glaze_10 ⟨Nat.le_refl 0, Nat.le_refl 0⟩) hS (fun r_1 w2 H locs hw2 hS => ?_)
  obtain ⟨rfl, rfl⟩ := hw2
  rw [te_te] at hS
  refine lv_bipush (v := 10) hx hb dX5_glaze_13 (by decide) ?_
  refine lv_idiv hx hb dX5_glaze_15 (by decide) ?_
  refine lv_iconst (v := 5) hx hb dX5_glaze_16 (by decide) ?_
  refine lv_iadd hx hb dX5_glaze_17 ?_
  exact m_iret hx hb hr hlk hS ⟨rfl, rfl⟩ (Nat.le_refl 0) (Nat.le_refl 0) dX5_glaze_18
set_option maxHeartbeats 4000000 in
set_option maxRecDepth 100000 in
theorem c_Uglaze (l : Launch) (X : Cx) (K : KT) (r : Bool) (t : Tr) (h i : Nat) (rc : Rc) (f : Nat) (hi : (kP K)[i]? = some (h, dE (kA K 3) rc)) (hk : kd rc = 6) (hf : 3 ≤ f) (ht : tR r 3 t) : cI l yX1_glaze cX1_glaze 1 (some .int) (rl f) X [.ref h] (wT X K r t) (fun v w' => v = glazeV 6 (rc 1) ∧ w' = wT X K r (te r (glazeT 6) t)) := by
  refine met_start (by decide) (Nat.le_of_ble_eq_true rfl) ?_
  intro p e s m below meth c ls fx hS hl
  obtain ⟨hx, hb, hr, hml, hown, hG, hlk, hF, hz, hnm⟩ := fx
  have hown : s.vm.findClass RX1 = some m.cls := hown
  have hl : lv_has ls 1 [(0, .ref h)] := hl
  have hk7 : kd rc < 7 := by rw [hk]; decide
  have hc : classes[kd rc]? = some (RX1, TD, 8) := by rw [hk]; rfl
  refine lv_aload_n hx hb dX1_glaze_0 rfl (lv_at hl 0 rfl) ?_
  refine m_get hx hb hG hown hF hS (i + 15) (wT_at hi) (kd_cls hk7).1 (kd_cls hk7).2 2 (by decide) kw_107 (sf_Butter hG) rfl dX1_glaze_1 ?_
  refine lv_bipush (v := 52) hx hb dX1_glaze_4 (by decide) ?_
  refine m_cv (m_runV (n := 1) (rest := []) ⟨hx, hb, hml, hown, hG⟩ (c_leave l X K r t 52 0 (ht.le (by decide))) kw_264 kw_249 kw_250 kw_19 kw_251 (by decide +kernel) (rl_ok (by omega) (by decide)) hF hz hS (q0 := 13) rfl rfl rfl hl.1 rfl (Nat.le_of_ble_eq_true rfl) dX1_glaze_6 ⟨Nat.le_refl 0, Nat.le_refl 0⟩) hS (fun w1 H locs hw1 hS => ?_)
  subst hw1
  refine lv_aload_n hx hb dX1_glaze_9 rfl (lv_at hl 0 rfl) ?_
  refine lv_sipush (v := 200) hx hb dX1_glaze_10 (by decide) ?_
  refine m_ci (m_runU (x := ⟨RX1, "brown", "(I)I"⟩) (owner := "DoughRoom$Sweet") (n := 1) (rest := []) ⟨hx, hb, hml, hown, hG⟩ (c_Wbrown l X K r (te r [52] t) h i rc 200 2 hi hk7 (by decide) (ht.step (by decide))) kw_365 kw_366 kw_308 kw_309 kw_308 kw_368 kw_26 kw_309 (by decide +kernel) (rl_ok (by omega) (by decide)) hF hz hS (q0 := i + 15) (wT_at hi) hc rfl hl.1 rfl (Nat.le_of_ble_eq_true rfl) dX1_glaze_13 ⟨Nat.le_refl 0, Nat.le_refl 0⟩) hS (fun r_1 w2 H locs hw2 hS => ?_)
  obtain ⟨rfl, rfl⟩ := hw2
  rw [te_te] at hS
  refine lv_bipush (v := 20) hx hb dX1_glaze_16 (by decide) ?_
  refine lv_iadd hx hb dX1_glaze_18 ?_
  exact m_iret hx hb hr hlk hS ⟨rfl, rfl⟩ (Nat.le_refl 0) (Nat.le_refl 0) dX1_glaze_19
def yKeeps (k : Nat) : MethodName := match k with
  | 2 => yX4_keeps
  | 3 => yX4_keeps
  | _ => yX0_keeps
def bKeeps (k : Nat) : ByteArray := match k with
  | 2 => cX4_keeps
  | 3 => cX4_keeps
  | _ => cX0_keeps
def nKeeps (k : Nat) : Nat := match k with
  | 2 => 1
  | 3 => 1
  | _ => 1
theorem fam_keeps (k : Nat) (h1 : 2 ≤ k) (h2 : k < 5) : Cond.selects (RD k) yX4_keeps (yKeeps k) ∈ G ∧ Cond.instanceMethod (yKeeps k) ∈ G ∧ Cond.initialized (yKeeps k).cls ∈ G ∧ Cond.code (yKeeps k) (bKeeps k) (nKeeps k) (some .int) ∈ G ∧ nKeeps k ≤ 8 :=
  match k, h1, h2 with
  | 2, _, _ => ⟨kw_346, kw_345, kw_23, kw_353, by decide⟩
  | 3, _, _ => ⟨kw_352, kw_345, kw_23, kw_353, by decide⟩
  | 4, _, _ => ⟨kw_348, kw_349, kw_25, kw_350, by decide⟩
set_option maxHeartbeats 4000000 in
set_option maxRecDepth 100000 in
theorem f_keeps (l : Launch) (X : Cx) (K : KT) (r : Bool) (t : Tr) (h i : Nat) (rc : Rc) (k : Nat) (f : Nat) (hi : (kP K)[i]? = some (h, dE (kA K 3) rc)) (hk : kd rc = k) (h1 : 2 ≤ k) (h2 : k < 5) (hf : 6 ≤ f) (ht : tR r 10 t) : cI l (yKeeps k) (bKeeps k) (nKeeps k) (some .int) (rl f) X [.ref h] (wT X K r t) (fun v w' => v = keepsV k (rc 1) ∧ w' = wT X K r (te r (keepsT k) t)) :=
  match k, hk, h1, h2 with
  | 2, hk, _, _ => c_Skeeps2 l X K r t h i rc f hi hk (by omega) (ht.le (by decide))
  | 3, hk, _, _ => c_Skeeps3 l X K r t h i rc f hi hk (by omega) (ht.le (by decide))
  | 4, hk, _, _ => c_Bkeeps l X K r t h i rc f hi hk (by omega) (ht.le (by decide))
def yGlaze (k : Nat) : MethodName := match k with
  | 5 => yX5_glaze
  | _ => yX1_glaze
def bGlaze (k : Nat) : ByteArray := match k with
  | 5 => cX5_glaze
  | _ => cX1_glaze
def nGlaze (k : Nat) : Nat := match k with
  | 5 => 1
  | _ => 1
theorem fam_glaze (k : Nat) (h1 : 5 ≤ k) (h2 : k < 7) : Cond.selects (RD k) yX5_glaze (yGlaze k) ∈ G ∧ Cond.instanceMethod (yGlaze k) ∈ G ∧ Cond.initialized (yGlaze k).cls ∈ G ∧ Cond.code (yGlaze k) (bGlaze k) (nGlaze k) (some .int) ∈ G ∧ nGlaze k ≤ 8 :=
  match k, h1, h2 with
  | 5, _, _ => ⟨kw_360, kw_359, kw_26, kw_369, by decide⟩
  | 6, _, _ => ⟨kw_362, kw_363, kw_27, kw_364, by decide⟩
set_option maxHeartbeats 4000000 in
set_option maxRecDepth 100000 in
theorem f_glaze (l : Launch) (X : Cx) (K : KT) (r : Bool) (t : Tr) (h i : Nat) (rc : Rc) (k : Nat) (f : Nat) (hi : (kP K)[i]? = some (h, dE (kA K 3) rc)) (hk : kd rc = k) (h1 : 5 ≤ k) (h2 : k < 7) (hf : 6 ≤ f) (ht : tR r 3 t) : cI l (yGlaze k) (bGlaze k) (nGlaze k) (some .int) (rl f) X [.ref h] (wT X K r t) (fun v w' => v = glazeV k (rc 1) ∧ w' = wT X K r (te r (glazeT k) t)) :=
  match k, hk, h1, h2 with
  | 5, hk, _, _ => c_Wglaze l X K r t h i rc f hi hk (by omega) (ht.le (by decide))
  | 6, hk, _, _ => c_Uglaze l X K r t h i rc f hi hk (by omega) (ht.le (by decide))
