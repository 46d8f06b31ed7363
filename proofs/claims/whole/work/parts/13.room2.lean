/-- how many of the first n are so -/
def cnt (g : Nat → Rc) (v : Int32) : Nat → Int32
  | 0 => 0
  | n + 1 => if g n 3 = v then cnt g v n + 1 else cnt g v n
/-- the mass in an oven, among the first n -/
def masm (g : Nat → Rc) (o : Int32) : Nat → Int32
  | 0 => 0
  | n + 1 => if g n 3 = 1 then if g n 6 = o then masm g o n + g n 1 else masm g o n else masm g o n
set_option maxHeartbeats 4000000 in
set_option maxRecDepth 100000 in
theorem hm_loop {p : Program} {l : Launch} {e : Env} {R : Room} {s : State} {m : MethodId} {args : Array Value} {below : List Frame} {meth : Method} {c : Code} {X : Cx} {q : Nat → Nat × va_E} {A : Nat → Nat} {n : Nat} {ad : Nat → Nat} {g : Nat → Rc} {wm dy tl : Int32} {hs : Nat → Int32} {t : Tr} {H : Heap} {locs : List Loc} {v : Int32} {P : Int32 → va_W → Prop} (hn : n ≤ 40) (hkd : ∀ i, i < n → kd (g i) < 7) (hx : p.tables.exec = Jvm.exec) (hb : c.code = cX8_howMany) (hr : meth.sig.returnType = some .int) (hml : c.maxLocals = 7) (hown : s.vm.findClass RX8 = some m.cls) (hG : ∀ w ∈ G, w.before args s = true) (hlk : meth.locks = false) (hF : mF X s) (hz : X.2.2.2 ≤ s.heap.size) (hS : mS X s (wT X (kC q A n ad g wm dy tl hs) false t) H locs) (hP : P (cnt g v n) (wT X (kC q A n ad g wm dy tl hs) false t)) : ∀ (d j : Nat) (x5 x2 : Int32) (ls : Array Slot), x5 = nI j → j + d = 40 → x2 = cnt g v (min j n) → lv_has ls 7 [(5, .int x5), (2, .int x2), (0, .ref (A 0)), (1, .int v), (3, .ref (A 1)), (4, .int (nI 40))] → W p l e R s m args below meth c H locs 0 0 (MQ below (va_Qi P (fun w t => mH X w t.heap) (xA X)) args s 0 0 (xA X)) (F0 m 14 ls []) := by
  intro d
  induction d with
  | zero =>
    intro j x5 x2 ls ex hd e2 hl
    have hj : j = 40 := by omega
    subst hj
    refine lv_iload hx hb dX8_howMany_14 (lv_at hl 0 rfl) ?_
    refine lv_iload hx hb dX8_howMany_16 (lv_at hl 5 rfl) ?_
    refine lv_icmp_ge (tgt := 50) hx hb dX8_howMany_18 (by decide) (fun c_1 => ?_) (fun c_1 => absurd (by rw [ex]; exact Int32.le_refl _) c_1)
    refine lv_iload_n hx hb dX8_howMany_50 rfl (lv_at hl 1 rfl) ?_
    exact m_iret hx hb hr hlk hS (by rw [e2, Nat.min_eq_right hn]; exact hP) (Nat.le_refl 0) (Nat.le_refl 0) dX8_howMany_51
  | succ d ih =>
    intro j x5 x2 ls ex hd e2 hl
    subst ex
    refine lv_iload hx hb dX8_howMany_14 (lv_at hl 0 rfl) ?_
    refine lv_iload hx hb dX8_howMany_16 (lv_at hl 5 rfl) ?_
    refine lv_icmp_ge (tgt := 50) hx hb dX8_howMany_18 (by decide) (fun c_2 => absurd c_2 (nI_ge (by omega) (by decide))) (fun c_2 => ?_)
    refine lv_aload_n hx hb dX8_howMany_21 rfl (lv_at hl 4 rfl) ?_
    refine lv_iload hx hb dX8_howMany_22 (lv_at hl 0 rfl) ?_
    by_cases hj : j < n
    · refine m_aaldS hx hb hF hS (11) rfl (j) rfl (by omega) (by decide) (bfn_in hj) dX8_howMany_24 ?_
      refine lv_astore (lv' := [(6, .ref (ad j)), (5, .int (nI j)), (2, .int x2), (0, .ref (A 0)), (1, .int v), (3, .ref (A 1)), (4, .int (nI 40))]) hx hb dX8_howMany_25 hl (by decide) rfl (fun ls hl => ?_)
      refine lv_aload hx hb dX8_howMany_27 (lv_at hl 0 rfl) ?_
      refine lv_ifnull hx hb dX8_howMany_29 ?_
      refine lv_aload hx hb dX8_howMany_32 (lv_at hl 0 rfl) ?_
      refine m_get (v := .int (g j 3)) hx hb hG hown hF hS (j + 15) (kC_at hj) (kd_cls (hkd j hj)).1 (kd_cls (hkd j hj)).2 3 (by decide) kw_116 (fun _ h9 => h9) rfl dX8_howMany_34 ?_
      refine lv_iload_n hx hb dX8_howMany_37 rfl (lv_at hl 4 rfl) ?_
      refine lv_icmp_ne (tgt := 44) hx hb dX8_howMany_38 (by decide) (fun c_3 => ?_) (fun c_3 => ?_)
      · obtain ⟨x_4, ex_4⟩ : ∃ y : Int32, y = (nI j) + 1 := ⟨_, rfl⟩
        refine lv_iinc (v := x_4) (lv' := [(5, .int x_4), (6, .ref (ad j)), (2, .int x2), (0, .ref (A 0)), (1, .int v), (3, .ref (A 1)), (4, .int (nI 40))]) hx hb dX8_howMany_44 hl (k := 1) rfl (by rw [ex_4]; rfl) (by decide) rfl (fun ls hl => ?_)
        refine lv_goto (tgt := 14) hx hb dX8_howMany_47 (by decide) ?_
        exact ih (j + 1) x_4 x2 ls (by rw [ex_4]; exact nI_1 j) (by omega) (by rw [show min (j + 1) n = j + 1 from Nat.min_eq_left hj, cnt, if_neg c_3, e2, Nat.min_eq_left (Nat.le_of_lt hj)]) (lv_sub hl [0, 2, 3, 4, 5, 6] rfl)
      · obtain ⟨x_4, ex_4⟩ : ∃ y : Int32, y = x2 + 1 := ⟨_, rfl⟩
        refine lv_iinc (v := x_4) (lv' := [(2, .int x_4), (6, .ref (ad j)), (5, .int (nI j)), (0, .ref (A 0)), (1, .int v), (3, .ref (A 1)), (4, .int (nI 40))]) hx hb dX8_howMany_41 hl (k := 2) rfl (by rw [ex_4]; rfl) (by decide) rfl (fun ls hl => ?_)
        obtain ⟨x_5, ex_5⟩ : ∃ y : Int32, y = (nI j) + 1 := ⟨_, rfl⟩
        refine lv_iinc (v := x_5) (lv' := [(5, .int x_5), (2, .int x_4), (6, .ref (ad j)), (0, .ref (A 0)), (1, .int v), (3, .ref (A 1)), (4, .int (nI 40))]) hx hb dX8_howMany_44 hl (k := 2) rfl (by rw [ex_5]; rfl) (by decide) rfl (fun ls hl => ?_)
        refine lv_goto (tgt := 14) hx hb dX8_howMany_47 (by decide) ?_
        exact ih (j + 1) x_5 x_4 ls (by rw [ex_5]; exact nI_1 j) (by omega) (by rw [show min (j + 1) n = j + 1 from Nat.min_eq_left hj, cnt, if_pos c_3, ex_4, e2, Nat.min_eq_left (Nat.le_of_lt hj)]) (lv_sub hl [0, 1, 3, 4, 5, 6] rfl)
    · refine m_aaldN hx hb hF hS (11) rfl (j) rfl (by omega) (by decide) (bfn_out (by omega)) dX8_howMany_24 ?_
      refine lv_astoreN (lv' := [(6, .null), (5, .int (nI j)), (2, .int x2), (0, .ref (A 0)), (1, .int v), (3, .ref (A 1)), (4, .int (nI 40))]) hx hb dX8_howMany_25 hl (by decide) rfl (fun ls hl => ?_)
      refine lv_aloadN hx hb dX8_howMany_27 (lv_at hl 0 rfl) ?_
      refine lv_ifnullN (tgt := 44) hx hb dX8_howMany_29 (by decide) ?_
      obtain ⟨x_51, ex_51⟩ : ∃ y : Int32, y = (nI j) + 1 := ⟨_, rfl⟩
      refine lv_iinc (v := x_51) (lv' := [(5, .int x_51), (6, .null), (2, .int x2), (0, .ref (A 0)), (1, .int v), (3, .ref (A 1)), (4, .int (nI 40))]) hx hb dX8_howMany_44 hl (k := 1) rfl (by rw [ex_51]; rfl) (by decide) rfl (fun ls hl => ?_)
      refine lv_goto (tgt := 14) hx hb dX8_howMany_47 (by decide) ?_
      exact ih (j + 1) x_51 x2 ls (by rw [ex_51]; exact nI_1 j) (by omega) (by rw [e2, Nat.min_eq_right (by omega), Nat.min_eq_right (by omega)]) (lv_sub hl [0, 2, 3, 4, 5, 6] rfl)
set_option maxHeartbeats 4000000 in
set_option maxRecDepth 100000 in
theorem c_howMany (l : Launch) (X : Cx) (q : Nat → Nat × va_E) (A : Nat → Nat) (n : Nat) (ad : Nat → Nat) (g : Nat → Rc) (wm dy tl : Int32) (hs : Nat → Int32) (t : Tr) (v : Int32) (f : Nat) (hn : n ≤ 40) (hkd : ∀ i, i < n → kd (g i) < 7) : cI l yX8_howMany cX8_howMany 7 (some .int) (rl f) X [.ref (A 0), .int v] (wT X (kC q A n ad g wm dy tl hs) false t) (fun r w => r = cnt g v n ∧ w = wT X (kC q A n ad g wm dy tl hs) false t) := by
  refine met_start (by decide) (Nat.le_of_ble_eq_true rfl) ?_
  intro p e s m below meth c ls fx hS hl
  obtain ⟨hx, hb, hr, hml, hown, hG, hlk, hF, hz, hnm⟩ := fx
  have hown : s.vm.findClass RX8 = some m.cls := hown
  have hl : lv_has ls 7 [(0, .ref (A 0)), (1, .int v)] := hl
  refine lv_iconst (v := 0) hx hb dX8_howMany_0 (by decide) ?_
  refine lv_istore_n (lv' := [(2, .int 0), (0, .ref (A 0)), (1, .int v)]) hx hb dX8_howMany_1 rfl hl (by decide) rfl (fun ls hl => ?_)
  refine lv_aload_n hx hb dX8_howMany_2 rfl (lv_at hl 1 rfl) ?_
  refine m_get (v := .ref (A 1)) hx hb hG hown hF hS (10) rfl rfl iG_8 0 (by decide) kw_56 (fun _ h9 => h9) rfl dX8_howMany_3 ?_
  refine lv_astore_n (lv' := [(3, .ref (A 1)), (2, .int 0), (0, .ref (A 0)), (1, .int v)]) hx hb dX8_howMany_6 rfl hl (by decide) rfl (fun ls hl => ?_)
  refine lv_aload_n hx hb dX8_howMany_7 rfl (lv_at hl 0 rfl) ?_
  refine m_alenQ hx hb hF hS (11) rfl dX8_howMany_8 ?_
  refine lv_istore (lv' := [(4, .int (nI 40)), (3, .ref (A 1)), (2, .int 0), (0, .ref (A 0)), (1, .int v)]) hx hb dX8_howMany_9 hl (by decide) rfl (fun ls hl => ?_)
  refine lv_iconst (v := 0) hx hb dX8_howMany_11 (by decide) ?_
  refine lv_istore (lv' := [(5, .int 0), (4, .int (nI 40)), (3, .ref (A 1)), (2, .int 0), (0, .ref (A 0)), (1, .int v)]) hx hb dX8_howMany_12 hl (by decide) rfl (fun ls hl => ?_)
  exact hm_loop hn hkd hx hb hr hml hown hG hlk hF hz hS ⟨rfl, rfl⟩ 40 0 0 0 ls nI_0.symm (by omega) (by rw [Nat.zero_min]; rfl) (lv_sub hl [0, 3, 4, 5, 2, 1] rfl)
set_option maxHeartbeats 4000000 in
set_option maxRecDepth 100000 in
theorem mi_loop {p : Program} {l : Launch} {e : Env} {R : Room} {s : State} {m : MethodId} {args : Array Value} {below : List Frame} {meth : Method} {c : Code} {X : Cx} {q : Nat → Nat × va_E} {A : Nat → Nat} {n : Nat} {ad : Nat → Nat} {g : Nat → Rc} {wm dy tl : Int32} {hs : Nat → Int32} {t : Tr} {H : Heap} {locs : List Loc} {o : Int32} {P : Int32 → va_W → Prop} (hn : n ≤ 40) (hkd : ∀ i, i < n → kd (g i) < 7) (hx : p.tables.exec = Jvm.exec) (hb : c.code = cX8_massIn) (hr : meth.sig.returnType = some .int) (hml : c.maxLocals = 7) (hown : s.vm.findClass RX8 = some m.cls) (hG : ∀ w ∈ G, w.before args s = true) (hlk : meth.locks = false) (hF : mF X s) (hz : X.2.2.2 ≤ s.heap.size) (hS : mS X s (wT X (kC q A n ad g wm dy tl hs) false t) H locs) (hP : P (masm g o n) (wT X (kC q A n ad g wm dy tl hs) false t)) : ∀ (d j : Nat) (x5 x2 : Int32) (ls : Array Slot), x5 = nI j → j + d = 40 → x2 = masm g o (min j n) → lv_has ls 7 [(5, .int x5), (2, .int x2), (0, .ref (A 0)), (1, .int o), (3, .ref (A 1)), (4, .int (nI 40))] → W p l e R s m args below meth c H locs 0 0 (MQ below (va_Qi P (fun w t => mH X w t.heap) (xA X)) args s 0 0 (xA X)) (F0 m 14 ls []) := by
  intro d
  induction d with
  | zero =>
    intro j x5 x2 ls ex hd e2 hl
    have hj : j = 40 := by omega
    subst hj
    refine lv_iload hx hb dX8_massIn_14 (lv_at hl 0 rfl) ?_
    refine lv_iload hx hb dX8_massIn_16 (lv_at hl 5 rfl) ?_
    refine lv_icmp_ge (tgt := 64) hx hb dX8_massIn_18 (by decide) (fun c_1 => ?_) (fun c_1 => absurd (by rw [ex]; exact Int32.le_refl _) c_1)
    refine lv_iload_n hx hb dX8_massIn_64 rfl (lv_at hl 1 rfl) ?_
    exact m_iret hx hb hr hlk hS (by rw [e2, Nat.min_eq_right hn]; exact hP) (Nat.le_refl 0) (Nat.le_refl 0) dX8_massIn_65
  | succ d ih =>
    intro j x5 x2 ls ex hd e2 hl
    subst ex
    refine lv_iload hx hb dX8_massIn_14 (lv_at hl 0 rfl) ?_
    refine lv_iload hx hb dX8_massIn_16 (lv_at hl 5 rfl) ?_
    refine lv_icmp_ge (tgt := 64) hx hb dX8_massIn_18 (by decide) (fun c_2 => absurd c_2 (nI_ge (by omega) (by decide))) (fun c_2 => ?_)
    refine lv_aload_n hx hb dX8_massIn_21 rfl (lv_at hl 4 rfl) ?_
    refine lv_iload hx hb dX8_massIn_22 (lv_at hl 0 rfl) ?_
    by_cases hj : j < n
    · refine m_aaldS hx hb hF hS (11) rfl (j) rfl (by omega) (by decide) (bfn_in hj) dX8_massIn_24 ?_
      refine lv_astore (lv' := [(6, .ref (ad j)), (5, .int (nI j)), (2, .int x2), (0, .ref (A 0)), (1, .int o), (3, .ref (A 1)), (4, .int (nI 40))]) hx hb dX8_massIn_25 hl (by decide) rfl (fun ls hl => ?_)
      refine lv_aload hx hb dX8_massIn_27 (lv_at hl 0 rfl) ?_
      refine lv_ifnull hx hb dX8_massIn_29 ?_
      refine lv_aload hx hb dX8_massIn_32 (lv_at hl 0 rfl) ?_
      refine m_get (v := .int (g j 3)) hx hb hG hown hF hS (j + 15) (kC_at hj) (kd_cls (hkd j hj)).1 (kd_cls (hkd j hj)).2 3 (by decide) kw_116 (fun _ h9 => h9) rfl dX8_massIn_34 ?_
      refine lv_iconst (v := 1) hx hb dX8_massIn_37 (by decide) ?_
      refine lv_icmp_ne (tgt := 58) hx hb dX8_massIn_38 (by decide) (fun c_3 => ?_) (fun c_3 => ?_)
      · obtain ⟨x_4, ex_4⟩ : ∃ y : Int32, y = (nI j) + 1 := ⟨_, rfl⟩
        refine lv_iinc (v := x_4) (lv' := [(5, .int x_4), (6, .ref (ad j)), (2, .int x2), (0, .ref (A 0)), (1, .int o), (3, .ref (A 1)), (4, .int (nI 40))]) hx hb dX8_massIn_58 hl (k := 1) rfl (by rw [ex_4]; rfl) (by decide) rfl (fun ls hl => ?_)
        refine lv_goto (tgt := 14) hx hb dX8_massIn_61 (by decide) ?_
        exact ih (j + 1) x_4 x2 ls (by rw [ex_4]; exact nI_1 j) (by omega) (by rw [show min (j + 1) n = j + 1 from Nat.min_eq_left hj, masm, if_neg c_3, e2, Nat.min_eq_left (Nat.le_of_lt hj)]) (lv_sub hl [0, 2, 3, 4, 5, 6] rfl)
      · refine lv_aload hx hb dX8_massIn_41 (lv_at hl 0 rfl) ?_
        refine m_get (v := .int (g j 6)) hx hb hG hown hF hS (j + 15) (kC_at hj) (kd_cls (hkd j hj)).1 (kd_cls (hkd j hj)).2 6 (by decide) kw_121 (fun _ h9 => h9) rfl dX8_massIn_43 ?_
        refine lv_iload_n hx hb dX8_massIn_46 rfl (lv_at hl 4 rfl) ?_
        refine lv_icmp_ne (tgt := 58) hx hb dX8_massIn_47 (by decide) (fun c_4 => ?_) (fun c_4 => ?_)
        · obtain ⟨x_5, ex_5⟩ : ∃ y : Int32, y = (nI j) + 1 := ⟨_, rfl⟩
          refine lv_iinc (v := x_5) (lv' := [(5, .int x_5), (6, .ref (ad j)), (2, .int x2), (0, .ref (A 0)), (1, .int o), (3, .ref (A 1)), (4, .int (nI 40))]) hx hb dX8_massIn_58 hl (k := 1) rfl (by rw [ex_5]; rfl) (by decide) rfl (fun ls hl => ?_)
          refine lv_goto (tgt := 14) hx hb dX8_massIn_61 (by decide) ?_
          exact ih (j + 1) x_5 x2 ls (by rw [ex_5]; exact nI_1 j) (by omega) (by rw [show min (j + 1) n = j + 1 from Nat.min_eq_left hj, masm, if_pos c_3, if_neg c_4, e2, Nat.min_eq_left (Nat.le_of_lt hj)]) (lv_sub hl [0, 2, 3, 4, 5, 6] rfl)
        · refine lv_iload_n hx hb dX8_massIn_50 rfl (lv_at hl 2 rfl) ?_
          refine lv_aload hx hb dX8_massIn_51 (lv_at hl 0 rfl) ?_
          refine m_get (v := .int (g j 1)) hx hb hG hown hF hS (j + 15) (kC_at hj) (kd_cls (hkd j hj)).1 (kd_cls (hkd j hj)).2 1 (by decide) kw_101 (fun _ h9 => h9) rfl dX8_massIn_53 ?_
          refine lv_iadd hx hb dX8_massIn_56 ?_
          refine lv_topi (fun x_5 ex_5 => ?_)
          refine lv_istore_n (lv' := [(2, .int x_5), (6, .ref (ad j)), (5, .int (nI j)), (0, .ref (A 0)), (1, .int o), (3, .ref (A 1)), (4, .int (nI 40))]) hx hb dX8_massIn_57 rfl hl (by decide) rfl (fun ls hl => ?_)
          obtain ⟨x_6, ex_6⟩ : ∃ y : Int32, y = (nI j) + 1 := ⟨_, rfl⟩
          refine lv_iinc (v := x_6) (lv' := [(5, .int x_6), (2, .int x_5), (6, .ref (ad j)), (0, .ref (A 0)), (1, .int o), (3, .ref (A 1)), (4, .int (nI 40))]) hx hb dX8_massIn_58 hl (k := 2) rfl (by rw [ex_6]; rfl) (by decide) rfl (fun ls hl => ?_)
          refine lv_goto (tgt := 14) hx hb dX8_massIn_61 (by decide) ?_
          exact ih (j + 1) x_6 x_5 ls (by rw [ex_6]; exact nI_1 j) (by omega) (by rw [show min (j + 1) n = j + 1 from Nat.min_eq_left hj, masm, if_pos c_3, if_pos c_4, ex_5, e2, Nat.min_eq_left (Nat.le_of_lt hj)]) (lv_sub hl [0, 1, 3, 4, 5, 6] rfl)
    · refine m_aaldN hx hb hF hS (11) rfl (j) rfl (by omega) (by decide) (bfn_out (by omega)) dX8_massIn_24 ?_
      refine lv_astoreN (lv' := [(6, .null), (5, .int (nI j)), (2, .int x2), (0, .ref (A 0)), (1, .int o), (3, .ref (A 1)), (4, .int (nI 40))]) hx hb dX8_massIn_25 hl (by decide) rfl (fun ls hl => ?_)
      refine lv_aloadN hx hb dX8_massIn_27 (lv_at hl 0 rfl) ?_
      refine lv_ifnullN (tgt := 58) hx hb dX8_massIn_29 (by decide) ?_
      obtain ⟨x_51, ex_51⟩ : ∃ y : Int32, y = (nI j) + 1 := ⟨_, rfl⟩
      refine lv_iinc (v := x_51) (lv' := [(5, .int x_51), (6, .null), (2, .int x2), (0, .ref (A 0)), (1, .int o), (3, .ref (A 1)), (4, .int (nI 40))]) hx hb dX8_massIn_58 hl (k := 1) rfl (by rw [ex_51]; rfl) (by decide) rfl (fun ls hl => ?_)
      refine lv_goto (tgt := 14) hx hb dX8_massIn_61 (by decide) ?_
      exact ih (j + 1) x_51 x2 ls (by rw [ex_51]; exact nI_1 j) (by omega) (by rw [e2, Nat.min_eq_right (by omega), Nat.min_eq_right (by omega)]) (lv_sub hl [0, 2, 3, 4, 5, 6] rfl)
set_option maxHeartbeats 4000000 in
set_option maxRecDepth 100000 in
theorem c_massIn (l : Launch) (X : Cx) (q : Nat → Nat × va_E) (A : Nat → Nat) (n : Nat) (ad : Nat → Nat) (g : Nat → Rc) (wm dy tl : Int32) (hs : Nat → Int32) (t : Tr) (o : Int32) (f : Nat) (hn : n ≤ 40) (hkd : ∀ i, i < n → kd (g i) < 7) : cI l yX8_massIn cX8_massIn 7 (some .int) (rl f) X [.ref (A 0), .int o] (wT X (kC q A n ad g wm dy tl hs) false t) (fun r w => r = masm g o n ∧ w = wT X (kC q A n ad g wm dy tl hs) false t) := by
  refine met_start (by decide) (Nat.le_of_ble_eq_true rfl) ?_
  intro p e s m below meth c ls fx hS hl
  obtain ⟨hx, hb, hr, hml, hown, hG, hlk, hF, hz, hnm⟩ := fx
  have hown : s.vm.findClass RX8 = some m.cls := hown
  have hl : lv_has ls 7 [(0, .ref (A 0)), (1, .int o)] := hl
  refine lv_iconst (v := 0) hx hb dX8_massIn_0 (by decide) ?_
  refine lv_istore_n (lv' := [(2, .int 0), (0, .ref (A 0)), (1, .int o)]) hx hb dX8_massIn_1 rfl hl (by decide) rfl (fun ls hl => ?_)
  refine lv_aload_n hx hb dX8_massIn_2 rfl (lv_at hl 1 rfl) ?_
  refine m_get (v := .ref (A 1)) hx hb hG hown hF hS (10) rfl rfl iG_8 0 (by decide) kw_56 (fun _ h9 => h9) rfl dX8_massIn_3 ?_
  refine lv_astore_n (lv' := [(3, .ref (A 1)), (2, .int 0), (0, .ref (A 0)), (1, .int o)]) hx hb dX8_massIn_6 rfl hl (by decide) rfl (fun ls hl => ?_)
  refine lv_aload_n hx hb dX8_massIn_7 rfl (lv_at hl 0 rfl) ?_
  refine m_alenQ hx hb hF hS (11) rfl dX8_massIn_8 ?_
  refine lv_istore (lv' := [(4, .int (nI 40)), (3, .ref (A 1)), (2, .int 0), (0, .ref (A 0)), (1, .int o)]) hx hb dX8_massIn_9 hl (by decide) rfl (fun ls hl => ?_)
  refine lv_iconst (v := 0) hx hb dX8_massIn_11 (by decide) ?_
  refine lv_istore (lv' := [(5, .int 0), (4, .int (nI 40)), (3, .ref (A 1)), (2, .int 0), (0, .ref (A 0)), (1, .int o)]) hx hb dX8_massIn_12 hl (by decide) rfl (fun ls hl => ?_)
  exact mi_loop hn hkd hx hb hr hml hown hG hlk hF hz hS ⟨rfl, rfl⟩ 40 0 0 0 ls nI_0.symm (by omega) (by rw [Nat.zero_min]; rfl) (lv_sub hl [0, 3, 4, 5, 2, 1] rfl)
set_option maxHeartbeats 4000000 in
set_option maxRecDepth 100000 in
theorem c_ask_nob (l : Launch) (X : Cx) (q : Nat → Nat × va_E) (A : Nat → Nat) (n : Nat) (ad : Nat → Nat) (g : Nat → Rc) (wm dy tl : Int32) (hs : Nat → Int32) (t : Tr) (b : Int32) (x0 : Int32) (x1 : Int32) (f : Nat) (hf : 1 ≤ f) (hn : n ≤ 40) (hb0 : b < 0 ∨ nI n ≤ b) : cI l yX8_ask cX8_ask 7 (some .int) (rl f) X [.ref (A 0), .int b, .int x0, .int x1] (wT X (kC q A n ad g wm dy tl hs) false t) (fun r w => r = -2 ∧ w = wT X (kC q A n ad g wm dy tl hs) false t) := by
  refine met_start (by decide) (Nat.le_of_ble_eq_true rfl) ?_
  intro p e s m below meth c ls fx hS hl
  obtain ⟨hx, hb, hr, hml, hown, hG, hlk, hF, hz, hnm⟩ := fx
  have hown : s.vm.findClass RX8 = some m.cls := hown
  have hl : lv_has ls 7 [(0, .ref (A 0)), (1, .int b), (2, .int x0), (3, .int x1)] := hl
  refine lv_aload_n hx hb dX8_ask_0 rfl (lv_at hl 0 rfl) ?_
  refine lv_iload_n hx hb dX8_ask_1 rfl (lv_at hl 1 rfl) ?_
  refine m_cq (m_runV (n := 1) (rest := []) ⟨hx, hb, hml, hown, hG⟩ (c_find_no l X q A n ad g wm dy tl hs t b 0 hn hb0) kw_230 kw_232 kw_1 kw_18 kw_233 (by decide +kernel) (rl_ok (by omega) (by decide)) hF hz hS (q0 := 10) rfl rfl rfl hl.1 rfl (Nat.le_of_ble_eq_true rfl) dX8_ask_2 ⟨Nat.le_refl 0, Nat.le_refl 0⟩) hS (fun o_1 w1 H locs hw1 hS => ?_)
  obtain ⟨rfl, rfl⟩ := hw1
  refine lv_astoreN (lv' := [(4, .null), (0, .ref (A 0)), (1, .int b), (2, .int x0), (3, .int x1)]) hx hb dX8_ask_5 hl (by decide) rfl (fun ls hl => ?_)
  refine lv_aloadN hx hb dX8_ask_7 (lv_at hl 0 rfl) ?_
  refine lv_ifnullN (tgt := 20) hx hb dX8_ask_9 (by decide) ?_
  refine lv_bipush (v := -2) hx hb dX8_ask_20 (by decide) ?_
  exact m_iret hx hb hr hlk hS (⟨rfl, rfl⟩) (Nat.le_refl 0) (Nat.le_refl 0) dX8_ask_22
set_option maxHeartbeats 4000000 in
set_option maxRecDepth 100000 in
theorem c_bake_nob (l : Launch) (X : Cx) (q : Nat → Nat × va_E) (A : Nat → Nat) (n : Nat) (ad : Nat → Nat) (g : Nat → Rc) (wm dy tl : Int32) (hs : Nat → Int32) (t : Tr) (b : Int32) (x0 : Int32) (f : Nat) (hf : 1 ≤ f) (hn : n ≤ 40) (hb0 : b < 0 ∨ nI n ≤ b) : cI l yX8_bake cX8_bake 5 (some .int) (rl f) X [.ref (A 0), .int b, .int x0] (wT X (kC q A n ad g wm dy tl hs) false t) (fun r w => r = -2 ∧ w = wT X (kC q A n ad g wm dy tl hs) false t) := by
  refine met_start (by decide) (Nat.le_of_ble_eq_true rfl) ?_
  intro p e s m below meth c ls fx hS hl
  obtain ⟨hx, hb, hr, hml, hown, hG, hlk, hF, hz, hnm⟩ := fx
  have hown : s.vm.findClass RX8 = some m.cls := hown
  have hl : lv_has ls 5 [(0, .ref (A 0)), (1, .int b), (2, .int x0)] := hl
  refine lv_aload_n hx hb dX8_bake_0 rfl (lv_at hl 0 rfl) ?_
  refine lv_iload_n hx hb dX8_bake_1 rfl (lv_at hl 1 rfl) ?_
  refine m_cq (m_runV (n := 1) (rest := []) ⟨hx, hb, hml, hown, hG⟩ (c_find_no l X q A n ad g wm dy tl hs t b 0 hn hb0) kw_230 kw_232 kw_1 kw_18 kw_233 (by decide +kernel) (rl_ok (by omega) (by decide)) hF hz hS (q0 := 10) rfl rfl rfl hl.1 rfl (Nat.le_of_ble_eq_true rfl) dX8_bake_2 ⟨Nat.le_refl 0, Nat.le_refl 0⟩) hS (fun o_1 w1 H locs hw1 hS => ?_)
  obtain ⟨rfl, rfl⟩ := hw1
  refine lv_astore_nN (lv' := [(3, .null), (0, .ref (A 0)), (1, .int b), (2, .int x0)]) hx hb dX8_bake_5 rfl hl (by decide) rfl (fun ls hl => ?_)
  refine lv_aload_nN hx hb dX8_bake_6 rfl (lv_at hl 0 rfl) ?_
  refine lv_ifnullN (tgt := 18) hx hb dX8_bake_7 (by decide) ?_
  refine lv_bipush (v := -2) hx hb dX8_bake_18 (by decide) ?_
  exact m_iret hx hb hr hlk hS (⟨rfl, rfl⟩) (Nat.le_refl 0) (Nat.le_refl 0) dX8_bake_20
set_option maxHeartbeats 4000000 in
set_option maxRecDepth 100000 in
theorem c_out_nob (l : Launch) (X : Cx) (q : Nat → Nat × va_E) (A : Nat → Nat) (n : Nat) (ad : Nat → Nat) (g : Nat → Rc) (wm dy tl : Int32) (hs : Nat → Int32) (t : Tr) (b : Int32) (f : Nat) (hf : 1 ≤ f) (hn : n ≤ 40) (hb0 : b < 0 ∨ nI n ≤ b) : cI l yX8_out cX8_out 3 (some .int) (rl f) X [.ref (A 0), .int b] (wT X (kC q A n ad g wm dy tl hs) false t) (fun r w => r = -2 ∧ w = wT X (kC q A n ad g wm dy tl hs) false t) := by
  refine met_start (by decide) (Nat.le_of_ble_eq_true rfl) ?_
  intro p e s m below meth c ls fx hS hl
  obtain ⟨hx, hb, hr, hml, hown, hG, hlk, hF, hz, hnm⟩ := fx
  have hown : s.vm.findClass RX8 = some m.cls := hown
  have hl : lv_has ls 3 [(0, .ref (A 0)), (1, .int b)] := hl
  refine lv_aload_n hx hb dX8_out_0 rfl (lv_at hl 0 rfl) ?_
  refine lv_iload_n hx hb dX8_out_1 rfl (lv_at hl 1 rfl) ?_
  refine m_cq (m_runV (n := 1) (rest := []) ⟨hx, hb, hml, hown, hG⟩ (c_find_no l X q A n ad g wm dy tl hs t b 0 hn hb0) kw_230 kw_232 kw_1 kw_18 kw_233 (by decide +kernel) (rl_ok (by omega) (by decide)) hF hz hS (q0 := 10) rfl rfl rfl hl.1 rfl (Nat.le_of_ble_eq_true rfl) dX8_out_2 ⟨Nat.le_refl 0, Nat.le_refl 0⟩) hS (fun o_1 w1 H locs hw1 hS => ?_)
  obtain ⟨rfl, rfl⟩ := hw1
  refine lv_astore_nN (lv' := [(2, .null), (0, .ref (A 0)), (1, .int b)]) hx hb dX8_out_5 rfl hl (by decide) rfl (fun ls hl => ?_)
  refine lv_aload_nN hx hb dX8_out_6 rfl (lv_at hl 0 rfl) ?_
  refine lv_ifnonnullN hx hb dX8_out_7 ?_
  refine lv_bipush (v := -2) hx hb dX8_out_10 (by decide) ?_
  exact m_iret hx hb hr hlk hS (⟨rfl, rfl⟩) (Nat.le_refl 0) (Nat.le_refl 0) dX8_out_12
set_option maxHeartbeats 4000000 in
set_option maxRecDepth 100000 in
theorem c_sell_nob (l : Launch) (X : Cx) (q : Nat → Nat × va_E) (A : Nat → Nat) (n : Nat) (ad : Nat → Nat) (g : Nat → Rc) (wm dy tl : Int32) (hs : Nat → Int32) (t : Tr) (b : Int32) (f : Nat) (hf : 1 ≤ f) (hn : n ≤ 40) (hb0 : b < 0 ∨ nI n ≤ b) : cI l yX8_sell cX8_sell 5 (some .int) (rl f) X [.ref (A 0), .int b] (wT X (kC q A n ad g wm dy tl hs) false t) (fun r w => r = -2 ∧ w = wT X (kC q A n ad g wm dy tl hs) false t) := by
  refine met_start (by decide) (Nat.le_of_ble_eq_true rfl) ?_
  intro p e s m below meth c ls fx hS hl
  obtain ⟨hx, hb, hr, hml, hown, hG, hlk, hF, hz, hnm⟩ := fx
  have hown : s.vm.findClass RX8 = some m.cls := hown
  have hl : lv_has ls 5 [(0, .ref (A 0)), (1, .int b)] := hl
  refine lv_aload_n hx hb dX8_sell_0 rfl (lv_at hl 0 rfl) ?_
  refine lv_iload_n hx hb dX8_sell_1 rfl (lv_at hl 1 rfl) ?_
  refine m_cq (m_runV (n := 1) (rest := []) ⟨hx, hb, hml, hown, hG⟩ (c_find_no l X q A n ad g wm dy tl hs t b 0 hn hb0) kw_230 kw_232 kw_1 kw_18 kw_233 (by decide +kernel) (rl_ok (by omega) (by decide)) hF hz hS (q0 := 10) rfl rfl rfl hl.1 rfl (Nat.le_of_ble_eq_true rfl) dX8_sell_2 ⟨Nat.le_refl 0, Nat.le_refl 0⟩) hS (fun o_1 w1 H locs hw1 hS => ?_)
  obtain ⟨rfl, rfl⟩ := hw1
  refine lv_astore_nN (lv' := [(2, .null), (0, .ref (A 0)), (1, .int b)]) hx hb dX8_sell_5 rfl hl (by decide) rfl (fun ls hl => ?_)
  refine lv_aload_nN hx hb dX8_sell_6 rfl (lv_at hl 0 rfl) ?_
  refine lv_ifnonnullN hx hb dX8_sell_7 ?_
  refine lv_bipush (v := -2) hx hb dX8_sell_10 (by decide) ?_
  exact m_iret hx hb hr hlk hS (⟨rfl, rfl⟩) (Nat.le_refl 0) (Nat.le_refl 0) dX8_sell_12
set_option maxHeartbeats 4000000 in
set_option maxRecDepth 100000 in
theorem c_told_nob (l : Launch) (X : Cx) (q : Nat → Nat × va_E) (A : Nat → Nat) (n : Nat) (ad : Nat → Nat) (g : Nat → Rc) (wm dy tl : Int32) (hs : Nat → Int32) (t : Tr) (b : Int32) (x0 : Int32) (f : Nat) (hf : 1 ≤ f) (hn : n ≤ 40) (hb0 : b < 0 ∨ nI n ≤ b) : cI l yX8_told cX8_told 4 (some .int) (rl f) X [.ref (A 0), .int b, .int x0] (wT X (kC q A n ad g wm dy tl hs) false t) (fun r w => r = -2 ∧ w = wT X (kC q A n ad g wm dy tl hs) false t) := by
  refine met_start (by decide) (Nat.le_of_ble_eq_true rfl) ?_
  intro p e s m below meth c ls fx hS hl
  obtain ⟨hx, hb, hr, hml, hown, hG, hlk, hF, hz, hnm⟩ := fx
  have hown : s.vm.findClass RX8 = some m.cls := hown
  have hl : lv_has ls 4 [(0, .ref (A 0)), (1, .int b), (2, .int x0)] := hl
  refine lv_aload_n hx hb dX8_told_0 rfl (lv_at hl 0 rfl) ?_
  refine lv_iload_n hx hb dX8_told_1 rfl (lv_at hl 1 rfl) ?_
  refine m_cq (m_runV (n := 1) (rest := []) ⟨hx, hb, hml, hown, hG⟩ (c_find_no l X q A n ad g wm dy tl hs t b 0 hn hb0) kw_230 kw_232 kw_1 kw_18 kw_233 (by decide +kernel) (rl_ok (by omega) (by decide)) hF hz hS (q0 := 10) rfl rfl rfl hl.1 rfl (Nat.le_of_ble_eq_true rfl) dX8_told_2 ⟨Nat.le_refl 0, Nat.le_refl 0⟩) hS (fun o_1 w1 H locs hw1 hS => ?_)
  obtain ⟨rfl, rfl⟩ := hw1
  refine lv_astore_nN (lv' := [(3, .null), (0, .ref (A 0)), (1, .int b), (2, .int x0)]) hx hb dX8_told_5 rfl hl (by decide) rfl (fun ls hl => ?_)
  refine lv_aload_nN hx hb dX8_told_6 rfl (lv_at hl 0 rfl) ?_
  refine lv_ifnonnullN hx hb dX8_told_7 ?_
  refine lv_bipush (v := -2) hx hb dX8_told_10 (by decide) ?_
  exact m_iret hx hb hr hlk hS (⟨rfl, rfl⟩) (Nat.le_refl 0) (Nat.le_refl 0) dX8_told_12
set_option maxHeartbeats 4000000 in
set_option maxRecDepth 100000 in
theorem c_out_no (l : Launch) (X : Cx) (q : Nat → Nat × va_E) (A : Nat → Nat) (n : Nat) (ad : Nat → Nat) (g : Nat → Rc) (wm dy tl : Int32) (hs : Nat → Int32) (t : Tr) (j f : Nat) (hn : n ≤ 40) (hkd : ∀ i, i < n → kd (g i) < 7) (hj : j < n) (hf : 1 ≤ f) (h0 : ¬ g j 3 = 1) : cI l yX8_out cX8_out 3 (some .int) (rl f) X [.ref (A 0), .int (nI j)] (wT X (kC q A n ad g wm dy tl hs) false t) (fun r w' => r = -3 ∧ w' = wT X (kC q A n ad g wm dy tl hs) false t) := by
  refine met_start (by decide) (Nat.le_of_ble_eq_true rfl) ?_
  intro p e s m below meth c ls fx hS hl
  obtain ⟨hx, hb, hr, hml, hown, hG, hlk, hF, hz, hnm⟩ := fx
  have hown : s.vm.findClass RX8 = some m.cls := hown
  have hl : lv_has ls 3 [(0, .ref (A 0)), (1, .int (nI j))] := hl
  refine lv_aload_n hx hb dX8_out_0 rfl (lv_at hl 0 rfl) ?_
  refine lv_iload_n hx hb dX8_out_1 rfl (lv_at hl 1 rfl) ?_
  refine m_cq (m_runV (n := 1) (rest := []) ⟨hx, hb, hml, hown, hG⟩ (c_find l X q A n ad g wm dy tl hs t j 0 hn hj) kw_230 kw_232 kw_1 kw_18 kw_233 (by decide +kernel) (rl_ok (by omega) (by decide)) hF hz hS (q0 := 10) rfl rfl rfl hl.1 rfl (Nat.le_of_ble_eq_true rfl) dX8_out_2 ⟨Nat.le_refl 0, Nat.le_refl 0⟩) hS (fun o_1 w1 H locs hw1 hS => ?_)
  obtain ⟨rfl, rfl⟩ := hw1
  refine lv_astore_n (lv' := [(2, .ref (ad j)), (0, .ref (A 0)), (1, .int (nI j))]) hx hb dX8_out_5 rfl hl (by decide) rfl (fun ls hl => ?_)
  refine lv_aload_n hx hb dX8_out_6 rfl (lv_at hl 0 rfl) ?_
  refine lv_ifnonnull (tgt := 13) hx hb dX8_out_7 (by decide) ?_
  refine lv_aload_n hx hb dX8_out_13 rfl (lv_at hl 0 rfl) ?_
  refine m_get (v := .int (g j 3)) hx hb hG hown hF hS (j + 15) (kC_at hj) (kd_cls (hkd j hj)).1 (kd_cls (hkd j hj)).2 3 (by decide) kw_116 (fun _ h9 => h9) rfl dX8_out_14 ?_
  refine lv_iconst (v := 1) hx hb dX8_out_17 (by decide) ?_
  refine lv_icmp_eq (tgt := 24) hx hb dX8_out_18 (by decide) (fun c_2 => absurd c_2 (h0)) (fun c_2 => ?_)
  refine lv_bipush (v := -3) hx hb dX8_out_21 (by decide) ?_
  exact m_iret hx hb hr hlk hS (⟨rfl, rfl⟩) (Nat.le_refl 0) (Nat.le_refl 0) dX8_out_23
theorem kC_at2 {X : Cx} {q : Nat → Nat × va_E} {A : Nat → Nat} {n : Nat} {ad : Nat → Nat} {g : Nat → Rc} {wm dy tl : Int32} {hs : Nat → Int32} {r : Bool} {t : Tr} {j : Nat} {rc : Rc} (h : j < n) : (wT X (kC q A n ad (va_up g j rc) wm dy tl hs) r t)[j + 15]? = some (ad j, dE (A 3) rc) := by
  rw [kC_at h, va_up_self]
theorem wC_set2 {X : Cx} {q : Nat → Nat × va_E} {A : Nat → Nat} {n : Nat} {ad : Nat → Nat} {g : Nat → Rc} {wm dy tl : Int32} {hs : Nat → Int32} {r : Bool} {t : Tr} {j : Nat} {r0 rc : Rc} (h : j < n) : (wT X (kC q A n ad (va_up g j r0) wm dy tl hs) r t).set (j + 15) (ad j, dE (A 3) rc) = wT X (kC q A n ad (va_up g j rc) wm dy tl hs) r t := by
  rw [wC_set h, va_up_up]
set_option maxHeartbeats 4000000 in
set_option maxRecDepth 100000 in
theorem c_out_lost (l : Launch) (X : Cx) (q : Nat → Nat × va_E) (A : Nat → Nat) (n : Nat) (ad : Nat → Nat) (g : Nat → Rc) (wm dy tl : Int32) (hs : Nat → Int32) (t : Tr) (j f : Nat) (hn : n ≤ 40) (hkd : ∀ i, i < n → kd (g i) < 7) (hj : j < n) (hf : 1 ≤ f) (h0 : g j 3 = 1) (h1 : g j 5 < 40) : cI l yX8_out cX8_out 3 (some .int) (rl f) X [.ref (A 0), .int (nI j)] (wT X (kC q A n ad g wm dy tl hs) false t) (fun r w' => r = g j 5 ∧ w' = wT X (kC q A n ad (va_up g j (va_up (g j) 3 4)) wm dy tl hs) false t) := by
  refine met_start (by decide) (Nat.le_of_ble_eq_true rfl) ?_
  intro p e s m below meth c ls fx hS hl
  obtain ⟨hx, hb, hr, hml, hown, hG, hlk, hF, hz, hnm⟩ := fx
  have hown : s.vm.findClass RX8 = some m.cls := hown
  have hl : lv_has ls 3 [(0, .ref (A 0)), (1, .int (nI j))] := hl
  refine lv_aload_n hx hb dX8_out_0 rfl (lv_at hl 0 rfl) ?_
  refine lv_iload_n hx hb dX8_out_1 rfl (lv_at hl 1 rfl) ?_
  refine m_cq (m_runV (n := 1) (rest := []) ⟨hx, hb, hml, hown, hG⟩ (c_find l X q A n ad g wm dy tl hs t j 0 hn hj) kw_230 kw_232 kw_1 kw_18 kw_233 (by decide +kernel) (rl_ok (by omega) (by decide)) hF hz hS (q0 := 10) rfl rfl rfl hl.1 rfl (Nat.le_of_ble_eq_true rfl) dX8_out_2 ⟨Nat.le_refl 0, Nat.le_refl 0⟩) hS (fun o_1 w1 H locs hw1 hS => ?_)
  obtain ⟨rfl, rfl⟩ := hw1
  refine lv_astore_n (lv' := [(2, .ref (ad j)), (0, .ref (A 0)), (1, .int (nI j))]) hx hb dX8_out_5 rfl hl (by decide) rfl (fun ls hl => ?_)
  refine lv_aload_n hx hb dX8_out_6 rfl (lv_at hl 0 rfl) ?_
  refine lv_ifnonnull (tgt := 13) hx hb dX8_out_7 (by decide) ?_
  refine lv_aload_n hx hb dX8_out_13 rfl (lv_at hl 0 rfl) ?_
  refine m_get (v := .int (g j 3)) hx hb hG hown hF hS (j + 15) (kC_at hj) (kd_cls (hkd j hj)).1 (kd_cls (hkd j hj)).2 3 (by decide) kw_116 (fun _ h9 => h9) rfl dX8_out_14 ?_
  refine lv_iconst (v := 1) hx hb dX8_out_17 (by decide) ?_
  refine lv_icmp_eq (tgt := 24) hx hb dX8_out_18 (by decide) (fun c_2 => ?_) (fun c_2 => absurd (h0) c_2)
  refine lv_aload_n hx hb dX8_out_24 rfl (lv_at hl 0 rfl) ?_
  refine m_get (v := .int (g j 5)) hx hb hG hown hF hS (j + 15) (kC_at hj) (kd_cls (hkd j hj)).1 (kd_cls (hkd j hj)).2 5 (by decide) kw_120 (fun _ h9 => h9) rfl dX8_out_25 ?_
  refine lv_bipush (v := 40) hx hb dX8_out_28 (by decide) ?_
  refine lv_icmp_lt (tgt := 49) hx hb dX8_out_30 (by decide) (fun c_3 => ?_) (fun c_3 => absurd (h1) c_3)
  refine lv_aload_n hx hb dX8_out_49 rfl (lv_at hl 0 rfl) ?_
  refine lv_iconst (v := 4) hx hb dX8_out_50 (by decide) ?_
  refine m_put hx hb hG hown hF hS (j + 15) (kC_at hj) (kd_cls (hkd j hj)).1 (kd_cls (hkd j hj)).2 tyX2_ok nmX2 3 (by decide) kw_116 (fun _ h9 => h9) rfl rfl rfl (Nat.le_of_ble_eq_true rfl) (wT X (kC q A n ad (va_up g j (va_up (g j) 3 4)) wm dy tl hs) false t) (wC_set (rc := va_up (g j) 3 4) hj) dX8_out_51 (fun H locs hS => ?_)
  refine lv_aload_n hx hb dX8_out_54 rfl (lv_at hl 0 rfl) ?_
  refine m_get (v := .int ((va_up (g j) 3 4) 5)) hx hb hG hown hF hS (j + 15) (kC_at2 hj) (kd_cls (hkd j hj)).1 (kd_cls (hkd j hj)).2 5 (by decide) kw_120 (fun _ h9 => h9) rfl dX8_out_55 ?_
  exact m_iret hx hb hr hlk hS (⟨rfl, rfl⟩) (Nat.le_refl 0) (Nat.le_refl 0) dX8_out_58
set_option maxHeartbeats 4000000 in
set_option maxRecDepth 100000 in
theorem c_out_done (l : Launch) (X : Cx) (q : Nat → Nat × va_E) (A : Nat → Nat) (n : Nat) (ad : Nat → Nat) (g : Nat → Rc) (wm dy tl : Int32) (hs : Nat → Int32) (t : Tr) (j f : Nat) (hn : n ≤ 40) (hkd : ∀ i, i < n → kd (g i) < 7) (hj : j < n) (hf : 1 ≤ f) (h0 : g j 3 = 1) (h1 : ¬ g j 5 < 40) : cI l yX8_out cX8_out 3 (some .int) (rl f) X [.ref (A 0), .int (nI j)] (wT X (kC q A n ad g wm dy tl hs) false t) (fun r w' => r = g j 5 ∧ w' = wT X (kC q A n ad (va_up g j (va_up (va_up (g j) 3 2) 7 dy)) wm dy tl hs) false t) := by
  refine met_start (by decide) (Nat.le_of_ble_eq_true rfl) ?_
  intro p e s m below meth c ls fx hS hl
  obtain ⟨hx, hb, hr, hml, hown, hG, hlk, hF, hz, hnm⟩ := fx
  have hown : s.vm.findClass RX8 = some m.cls := hown
  have hl : lv_has ls 3 [(0, .ref (A 0)), (1, .int (nI j))] := hl
  refine lv_aload_n hx hb dX8_out_0 rfl (lv_at hl 0 rfl) ?_
  refine lv_iload_n hx hb dX8_out_1 rfl (lv_at hl 1 rfl) ?_
  refine m_cq (m_runV (n := 1) (rest := []) ⟨hx, hb, hml, hown, hG⟩ (c_find l X q A n ad g wm dy tl hs t j 0 hn hj) kw_230 kw_232 kw_1 kw_18 kw_233 (by decide +kernel) (rl_ok (by omega) (by decide)) hF hz hS (q0 := 10) rfl rfl rfl hl.1 rfl (Nat.le_of_ble_eq_true rfl) dX8_out_2 ⟨Nat.le_refl 0, Nat.le_refl 0⟩) hS (fun o_1 w1 H locs hw1 hS => ?_)
  obtain ⟨rfl, rfl⟩ := hw1
  refine lv_astore_n (lv' := [(2, .ref (ad j)), (0, .ref (A 0)), (1, .int (nI j))]) hx hb dX8_out_5 rfl hl (by decide) rfl (fun ls hl => ?_)
  refine lv_aload_n hx hb dX8_out_6 rfl (lv_at hl 0 rfl) ?_
  refine lv_ifnonnull (tgt := 13) hx hb dX8_out_7 (by decide) ?_
  refine lv_aload_n hx hb dX8_out_13 rfl (lv_at hl 0 rfl) ?_
  refine m_get (v := .int (g j 3)) hx hb hG hown hF hS (j + 15) (kC_at hj) (kd_cls (hkd j hj)).1 (kd_cls (hkd j hj)).2 3 (by decide) kw_116 (fun _ h9 => h9) rfl dX8_out_14 ?_
  refine lv_iconst (v := 1) hx hb dX8_out_17 (by decide) ?_
  refine lv_icmp_eq (tgt := 24) hx hb dX8_out_18 (by decide) (fun c_2 => ?_) (fun c_2 => absurd (h0) c_2)
  refine lv_aload_n hx hb dX8_out_24 rfl (lv_at hl 0 rfl) ?_
  refine m_get (v := .int (g j 5)) hx hb hG hown hF hS (j + 15) (kC_at hj) (kd_cls (hkd j hj)).1 (kd_cls (hkd j hj)).2 5 (by decide) kw_120 (fun _ h9 => h9) rfl dX8_out_25 ?_
  refine lv_bipush (v := 40) hx hb dX8_out_28 (by decide) ?_
  refine lv_icmp_lt (tgt := 49) hx hb dX8_out_30 (by decide) (fun c_3 => absurd c_3 (h1)) (fun c_3 => ?_)
  refine lv_aload_n hx hb dX8_out_33 rfl (lv_at hl 0 rfl) ?_
  refine lv_iconst (v := 2) hx hb dX8_out_34 (by decide) ?_
  refine m_put hx hb hG hown hF hS (j + 15) (kC_at hj) (kd_cls (hkd j hj)).1 (kd_cls (hkd j hj)).2 tyX2_ok nmX2 3 (by decide) kw_116 (fun _ h9 => h9) rfl rfl rfl (Nat.le_of_ble_eq_true rfl) (wT X (kC q A n ad (va_up g j (va_up (g j) 3 2)) wm dy tl hs) false t) (wC_set (rc := va_up (g j) 3 2) hj) dX8_out_35 (fun H locs hS => ?_)
  refine lv_aload_n hx hb dX8_out_38 rfl (lv_at hl 0 rfl) ?_
  refine lv_aload_n hx hb dX8_out_39 rfl (lv_at hl 1 rfl) ?_
  refine m_get (v := .int dy) hx hb hG hown hF hS (10) rfl rfl iG_8 5 (by decide) kw_61 (fun _ h9 => h9) rfl dX8_out_40 ?_
  refine m_put hx hb hG hown hF hS (j + 15) (kC_at2 hj) (kd_cls (hkd j hj)).1 (kd_cls (hkd j hj)).2 tyX2_ok nmX2 7 (by decide) kw_122 (fun _ h9 => h9) rfl rfl rfl (Nat.le_of_ble_eq_true rfl) (wT X (kC q A n ad (va_up g j (va_up (va_up (g j) 3 2) 7 dy)) wm dy tl hs) false t) (wC_set2 (rc := va_up (va_up (g j) 3 2) 7 dy) hj) dX8_out_43 (fun H locs hS => ?_)
  refine lv_goto (tgt := 54) hx hb dX8_out_46 (by decide) ?_
  refine lv_aload_n hx hb dX8_out_54 rfl (lv_at hl 0 rfl) ?_
  refine m_get (v := .int ((va_up (va_up (g j) 3 2) 7 dy) 5)) hx hb hG hown hF hS (j + 15) (kC_at2 hj) (kd_cls (hkd j hj)).1 (kd_cls (hkd j hj)).2 5 (by decide) kw_120 (fun _ h9 => h9) rfl dX8_out_55 ?_
  exact m_iret hx hb hr hlk hS (⟨rfl, rfl⟩) (Nat.le_refl 0) (Nat.le_refl 0) dX8_out_58
def toldV (rc : Rc) (k : Nat) : Int32 := match k with
  | 0 => rc 0
  | 1 => rc 3
  | 2 => rc 4
  | 3 => rc 5
  | 4 => if rc 3 = 1 then rc 6 else -1
  | 5 => if rc 3 = 2 then rc 7 else -1
  | 6 => if 2 ≤ kd rc ∧ kd rc < 5 then 1 else 0
  | _ => if 5 ≤ kd rc then 1 else 0
set_option maxHeartbeats 4000000 in
set_option maxRecDepth 100000 in
theorem c_told (l : Launch) (X : Cx) (q : Nat → Nat × va_E) (A : Nat → Nat) (n : Nat) (ad : Nat → Nat) (g : Nat → Rc) (wm dy tl : Int32) (hs : Nat → Int32) (t : Tr) (j f : Nat) (hn : n ≤ 40) (hkd : ∀ i, i < n → kd (g i) < 7) (hj : j < n) (k : Nat) (hk : k < 8) (hf : 1 ≤ f)  : cI l yX8_told cX8_told 4 (some .int) (rl f) X [.ref (A 0), .int (nI j), .int (nI k)] (wT X (kC q A n ad g wm dy tl hs) false t) (fun r w' => r = toldV (g j) k ∧ w' = wT X (kC q A n ad g wm dy tl hs) false t) := by
  refine met_start (by decide) (Nat.le_of_ble_eq_true rfl) ?_
  intro p e s m below meth c ls fx hS hl
  obtain ⟨hx, hb, hr, hml, hown, hG, hlk, hF, hz, hnm⟩ := fx
  have hown : s.vm.findClass RX8 = some m.cls := hown
  have hl : lv_has ls 4 [(0, .ref (A 0)), (1, .int (nI j)), (2, .int (nI k))] := hl
  refine lv_aload_n hx hb dX8_told_0 rfl (lv_at hl 0 rfl) ?_
  refine lv_iload_n hx hb dX8_told_1 rfl (lv_at hl 1 rfl) ?_
  refine m_cq (m_runV (n := 1) (rest := []) ⟨hx, hb, hml, hown, hG⟩ (c_find l X q A n ad g wm dy tl hs t j 0 hn hj) kw_230 kw_232 kw_1 kw_18 kw_233 (by decide +kernel) (rl_ok (by omega) (by decide)) hF hz hS (q0 := 10) rfl rfl rfl hl.1 rfl (Nat.le_of_ble_eq_true rfl) dX8_told_2 ⟨Nat.le_refl 0, Nat.le_refl 0⟩) hS (fun o_1 w1 H locs hw1 hS => ?_)
  obtain ⟨rfl, rfl⟩ := hw1
  refine lv_astore_n (lv' := [(3, .ref (ad j)), (0, .ref (A 0)), (1, .int (nI j)), (2, .int (nI k))]) hx hb dX8_told_5 rfl hl (by decide) rfl (fun ls hl => ?_)
  refine lv_aload_n hx hb dX8_told_6 rfl (lv_at hl 0 rfl) ?_
  refine lv_ifnonnull (tgt := 13) hx hb dX8_told_7 (by decide) ?_
  refine lv_iload_n hx hb dX8_told_13 rfl (lv_at hl 3 rfl) ?_
  match k, hk with
  | 0, _ =>
    refine lv_tableIn (off := 46) (tgt := 60) hx hb dX8_told_14 (by decide) (by decide) (by decide) (by decide) ?_
    refine lv_aload_n hx hb dX8_told_60 rfl (lv_at hl 0 rfl) ?_
    refine m_get (v := .int (g j 0)) hx hb hG hown hF hS (j + 15) (kC_at hj) (kd_cls (hkd j hj)).1 (kd_cls (hkd j hj)).2 0 (by decide) kw_99 (fun _ h9 => h9) rfl dX8_told_61 ?_
    exact m_iret hx hb hr hlk hS (⟨rfl, rfl⟩) (Nat.le_refl 0) (Nat.le_refl 0) dX8_told_64
  | 1, _ =>
    refine lv_tableIn (off := 51) (tgt := 65) hx hb dX8_told_14 (by decide) (by decide) (by decide) (by decide) ?_
    refine lv_aload_n hx hb dX8_told_65 rfl (lv_at hl 0 rfl) ?_
    refine m_get (v := .int (g j 3)) hx hb hG hown hF hS (j + 15) (kC_at hj) (kd_cls (hkd j hj)).1 (kd_cls (hkd j hj)).2 3 (by decide) kw_116 (fun _ h9 => h9) rfl dX8_told_66 ?_
    exact m_iret hx hb hr hlk hS (⟨rfl, rfl⟩) (Nat.le_refl 0) (Nat.le_refl 0) dX8_told_69
  | 2, _ =>
    refine lv_tableIn (off := 56) (tgt := 70) hx hb dX8_told_14 (by decide) (by decide) (by decide) (by decide) ?_
    refine lv_aload_n hx hb dX8_told_70 rfl (lv_at hl 0 rfl) ?_
    refine m_get (v := .int (g j 4)) hx hb hG hown hF hS (j + 15) (kC_at hj) (kd_cls (hkd j hj)).1 (kd_cls (hkd j hj)).2 4 (by decide) kw_118 (fun _ h9 => h9) rfl dX8_told_71 ?_
    exact m_iret hx hb hr hlk hS (⟨rfl, rfl⟩) (Nat.le_refl 0) (Nat.le_refl 0) dX8_told_74
  | 3, _ =>
    refine lv_tableIn (off := 61) (tgt := 75) hx hb dX8_told_14 (by decide) (by decide) (by decide) (by decide) ?_
    refine lv_aload_n hx hb dX8_told_75 rfl (lv_at hl 0 rfl) ?_
    refine m_get (v := .int (g j 5)) hx hb hG hown hF hS (j + 15) (kC_at hj) (kd_cls (hkd j hj)).1 (kd_cls (hkd j hj)).2 5 (by decide) kw_120 (fun _ h9 => h9) rfl dX8_told_76 ?_
    exact m_iret hx hb hr hlk hS (⟨rfl, rfl⟩) (Nat.le_refl 0) (Nat.le_refl 0) dX8_told_79
  | 4, _ =>
    refine lv_tableIn (off := 66) (tgt := 80) hx hb dX8_told_14 (by decide) (by decide) (by decide) (by decide) ?_
    refine lv_aload_n hx hb dX8_told_80 rfl (lv_at hl 0 rfl) ?_
    refine m_get (v := .int (g j 3)) hx hb hG hown hF hS (j + 15) (kC_at hj) (kd_cls (hkd j hj)).1 (kd_cls (hkd j hj)).2 3 (by decide) kw_116 (fun _ h9 => h9) rfl dX8_told_81 ?_
    refine lv_iconst (v := 1) hx hb dX8_told_84 (by decide) ?_
    refine lv_icmp_ne (tgt := 95) hx hb dX8_told_85 (by decide) (fun c_2 => ?_) (fun c_2 => ?_)
    · refine lv_iconst (v := -1) hx hb dX8_told_95 (by decide) ?_
      exact m_iret hx hb hr hlk hS (⟨by rw [toldV, if_neg c_2], rfl⟩) (Nat.le_refl 0) (Nat.le_refl 0) dX8_told_96
    · refine lv_aload_n hx hb dX8_told_88 rfl (lv_at hl 0 rfl) ?_
      refine m_get (v := .int (g j 6)) hx hb hG hown hF hS (j + 15) (kC_at hj) (kd_cls (hkd j hj)).1 (kd_cls (hkd j hj)).2 6 (by decide) kw_121 (fun _ h9 => h9) rfl dX8_told_89 ?_
      refine lv_goto (tgt := 96) hx hb dX8_told_92 (by decide) ?_
      exact m_iret hx hb hr hlk hS (⟨by rw [toldV, if_pos c_2], rfl⟩) (Nat.le_refl 0) (Nat.le_refl 0) dX8_told_96
  | 5, _ =>
    refine lv_tableIn (off := 83) (tgt := 97) hx hb dX8_told_14 (by decide) (by decide) (by decide) (by decide) ?_
    refine lv_aload_n hx hb dX8_told_97 rfl (lv_at hl 0 rfl) ?_
    refine m_get (v := .int (g j 3)) hx hb hG hown hF hS (j + 15) (kC_at hj) (kd_cls (hkd j hj)).1 (kd_cls (hkd j hj)).2 3 (by decide) kw_116 (fun _ h9 => h9) rfl dX8_told_98 ?_
    refine lv_iconst (v := 2) hx hb dX8_told_101 (by decide) ?_
    refine lv_icmp_ne (tgt := 112) hx hb dX8_told_102 (by decide) (fun c_2 => ?_) (fun c_2 => ?_)
    · refine lv_iconst (v := -1) hx hb dX8_told_112 (by decide) ?_
      exact m_iret hx hb hr hlk hS (⟨by rw [toldV, if_neg c_2], rfl⟩) (Nat.le_refl 0) (Nat.le_refl 0) dX8_told_113
    · refine lv_aload_n hx hb dX8_told_105 rfl (lv_at hl 0 rfl) ?_
      refine m_get (v := .int (g j 7)) hx hb hG hown hF hS (j + 15) (kC_at hj) (kd_cls (hkd j hj)).1 (kd_cls (hkd j hj)).2 7 (by decide) kw_122 (fun _ h9 => h9) rfl dX8_told_106 ?_
      refine lv_goto (tgt := 113) hx hb dX8_told_109 (by decide) ?_
      exact m_iret hx hb hr hlk hS (⟨by rw [toldV, if_pos c_2], rfl⟩) (Nat.le_refl 0) (Nat.le_refl 0) dX8_told_113
  | 6, _ =>
    refine lv_tableIn (off := 100) (tgt := 114) hx hb dX8_told_14 (by decide) (by decide) (by decide) (by decide) ?_
    refine lv_aload_n hx hb dX8_told_114 rfl (lv_at hl 0 rfl) ?_
    by_cases h5 : 2 ≤ kd (g j) ∧ kd (g j) < 5
    · refine m_instY hx hb hG hown hF hS (j + 15) (kC_at hj) (hkd j hj) kw_140 (hF.2.2.2.1 _ h5.1 h5.2) dX8_told_115 ?_
      refine lv_if_eq (tgt := 125) hx hb dX8_told_118 (by decide) (fun c_2 => absurd c_2 (by decide)) (fun c_2 => ?_)
      refine lv_iconst (v := 1) hx hb dX8_told_121 (by decide) ?_
      refine lv_goto (tgt := 126) hx hb dX8_told_122 (by decide) ?_
      exact m_iret hx hb hr hlk hS (⟨by rw [toldV, if_pos h5], rfl⟩) (Nat.le_refl 0) (Nat.le_refl 0) dX8_told_126
    · rcases Nat.lt_or_ge (kd (g j)) 2 with h6 | h6
      · refine m_instN hx hb hG hown hF hS (j + 15) (kC_at hj) (hkd j hj) kw_140 (hF.2.2.2.2.2.1 _ h6) dX8_told_115 ?_
        refine lv_if_eq (tgt := 125) hx hb dX8_told_118 (by decide) (fun c_2 => ?_) (fun c_2 => absurd (rfl) c_2)
        refine lv_iconst (v := 0) hx hb dX8_told_125 (by decide) ?_
        exact m_iret hx hb hr hlk hS (⟨by rw [toldV, if_neg h5], rfl⟩) (Nat.le_refl 0) (Nat.le_refl 0) dX8_told_126
      · have h6 : 5 ≤ kd (g j) := Nat.le_of_not_lt (fun q => h5 ⟨h6, q⟩)
        refine m_instN hx hb hG hown hF hS (j + 15) (kC_at hj) (hkd j hj) kw_140 (hF.2.2.2.2.2.2.1 _ h6 (hkd j hj)) dX8_told_115 ?_
        refine lv_if_eq (tgt := 125) hx hb dX8_told_118 (by decide) (fun c_2 => ?_) (fun c_2 => absurd (rfl) c_2)
        refine lv_iconst (v := 0) hx hb dX8_told_125 (by decide) ?_
        exact m_iret hx hb hr hlk hS (⟨by rw [toldV, if_neg h5], rfl⟩) (Nat.le_refl 0) (Nat.le_refl 0) dX8_told_126
  | 7, _ =>
    refine lv_tableIn (off := 113) (tgt := 127) hx hb dX8_told_14 (by decide) (by decide) (by decide) (by decide) ?_
    refine lv_aload_n hx hb dX8_told_127 rfl (lv_at hl 0 rfl) ?_
    by_cases h5 : 5 ≤ kd (g j)
    · refine m_instY hx hb hG hown hF hS (j + 15) (kC_at hj) (hkd j hj) kw_185 (hF.2.2.2.2.1 _ h5 (hkd j hj)) dX8_told_128 ?_
      refine lv_if_eq (tgt := 138) hx hb dX8_told_131 (by decide) (fun c_2 => absurd c_2 (by decide)) (fun c_2 => ?_)
      refine lv_iconst (v := 1) hx hb dX8_told_134 (by decide) ?_
      refine lv_goto (tgt := 139) hx hb dX8_told_135 (by decide) ?_
      exact m_iret hx hb hr hlk hS (⟨by show (1 : Int32) = if 5 ≤ kd (g j) then 1 else 0; rw [if_pos h5], rfl⟩) (Nat.le_refl 0) (Nat.le_refl 0) dX8_told_139
    · refine m_instN hx hb hG hown hF hS (j + 15) (kC_at hj) (hkd j hj) kw_185 (hF.2.2.2.2.2.2.2 _ (Nat.lt_of_not_le h5)) dX8_told_128 ?_
      refine lv_if_eq (tgt := 138) hx hb dX8_told_131 (by decide) (fun c_2 => ?_) (fun c_2 => absurd (rfl) c_2)
      refine lv_iconst (v := 0) hx hb dX8_told_138 (by decide) ?_
      exact m_iret hx hb hr hlk hS (⟨by show (0 : Int32) = if 5 ≤ kd (g j) then 1 else 0; rw [if_neg h5], rfl⟩) (Nat.le_refl 0) (Nat.le_refl 0) dX8_told_139
set_option maxHeartbeats 4000000 in
set_option maxRecDepth 100000 in
theorem c_told_bad (l : Launch) (X : Cx) (q : Nat → Nat × va_E) (A : Nat → Nat) (n : Nat) (ad : Nat → Nat) (g : Nat → Rc) (wm dy tl : Int32) (hs : Nat → Int32) (t : Tr) (j f : Nat) (hn : n ≤ 40) (hkd : ∀ i, i < n → kd (g i) < 7) (hj : j < n) (k : Int32) (hf : 1 ≤ f) (h0 : k.toInt < 0 ∨ 7 < k.toInt) : cI l yX8_told cX8_told 4 (some .int) (rl f) X [.ref (A 0), .int (nI j), .int k] (wT X (kC q A n ad g wm dy tl hs) false t) (fun r w' => r = -2 ∧ w' = wT X (kC q A n ad g wm dy tl hs) false t) := by
  refine met_start (by decide) (Nat.le_of_ble_eq_true rfl) ?_
  intro p e s m below meth c ls fx hS hl
  obtain ⟨hx, hb, hr, hml, hown, hG, hlk, hF, hz, hnm⟩ := fx
  have hown : s.vm.findClass RX8 = some m.cls := hown
  have hl : lv_has ls 4 [(0, .ref (A 0)), (1, .int (nI j)), (2, .int k)] := hl
  refine lv_aload_n hx hb dX8_told_0 rfl (lv_at hl 0 rfl) ?_
  refine lv_iload_n hx hb dX8_told_1 rfl (lv_at hl 1 rfl) ?_
  refine m_cq (m_runV (n := 1) (rest := []) ⟨hx, hb, hml, hown, hG⟩ (c_find l X q A n ad g wm dy tl hs t j 0 hn hj) kw_230 kw_232 kw_1 kw_18 kw_233 (by decide +kernel) (rl_ok (by omega) (by decide)) hF hz hS (q0 := 10) rfl rfl rfl hl.1 rfl (Nat.le_of_ble_eq_true rfl) dX8_told_2 ⟨Nat.le_refl 0, Nat.le_refl 0⟩) hS (fun o_1 w1 H locs hw1 hS => ?_)
  obtain ⟨rfl, rfl⟩ := hw1
  refine lv_astore_n (lv' := [(3, .ref (ad j)), (0, .ref (A 0)), (1, .int (nI j)), (2, .int k)]) hx hb dX8_told_5 rfl hl (by decide) rfl (fun ls hl => ?_)
  refine lv_aload_n hx hb dX8_told_6 rfl (lv_at hl 0 rfl) ?_
  refine lv_ifnonnull (tgt := 13) hx hb dX8_told_7 (by decide) ?_
  refine lv_iload_n hx hb dX8_told_13 rfl (lv_at hl 3 rfl) ?_
  refine lv_tableOut (tgt := 140) hx hb dX8_told_14 h0 (by decide) ?_
  refine lv_bipush (v := -2) hx hb dX8_told_140 (by decide) ?_
  exact m_iret hx hb hr hlk hS (⟨rfl, rfl⟩) (Nat.le_refl 0) (Nat.le_refl 0) dX8_told_142
def countV (n : Nat) (g : Nat → Rc) (dy tl : Int32) (k : Nat) : Int32 := match k with
  | 0 => nI n
  | 6 => dy
  | 7 => tl
  | k => cnt g (nI k - 1) n
set_option maxHeartbeats 4000000 in
set_option maxRecDepth 100000 in
theorem c_count (l : Launch) (X : Cx) (q : Nat → Nat × va_E) (A : Nat → Nat) (n : Nat) (ad : Nat → Nat) (g : Nat → Rc) (wm dy tl : Int32) (hs : Nat → Int32) (t : Tr) (k f : Nat) (hk : k < 8) (hf : 1 ≤ f) (hn : n ≤ 40) (hkd : ∀ i, i < n → kd (g i) < 7) : cI l yX8_count cX8_count 2 (some .int) (rl f) X [.ref (A 0), .int (nI k)] (wT X (kC q A n ad g wm dy tl hs) false t) (fun r w => r = countV n g dy tl k ∧ w = wT X (kC q A n ad g wm dy tl hs) false t) := by
  refine met_start (by decide) (Nat.le_of_ble_eq_true rfl) ?_
  intro p e s m below meth c ls fx hS hl
  obtain ⟨hx, hb, hr, hml, hown, hG, hlk, hF, hz, hnm⟩ := fx
  have hown : s.vm.findClass RX8 = some m.cls := hown
  have hl : lv_has ls 2 [(0, .ref (A 0)), (1, .int (nI k))] := hl
  refine lv_iload_n hx hb dX8_count_0 rfl (lv_at hl 1 rfl) ?_
  match k, hk with
  | 0, _ =>
    refine lv_tableIn (off := 47) (tgt := 48) hx hb dX8_count_1 (by decide) (by decide) (by decide) (by decide) ?_
    refine lv_aload_n hx hb dX8_count_48 rfl (lv_at hl 0 rfl) ?_
    refine m_get (v := .int (nI n)) hx hb hG hown hF hS (10) rfl rfl iG_8 3 (by decide) kw_59 (fun _ h9 => h9) rfl dX8_count_49 ?_
    exact m_iret hx hb hr hlk hS (⟨rfl, rfl⟩) (Nat.le_refl 0) (Nat.le_refl 0) dX8_count_52
  | 1, _ =>
    refine lv_tableIn (off := 52) (tgt := 53) hx hb dX8_count_1 (by decide) (by decide) (by decide) (by decide) ?_
    refine lv_aload_n hx hb dX8_count_53 rfl (lv_at hl 0 rfl) ?_
    refine lv_iload_n hx hb dX8_count_54 rfl (lv_at hl 1 rfl) ?_
    refine lv_iconst (v := 1) hx hb dX8_count_55 (by decide) ?_
    refine lv_isub hx hb dX8_count_56 ?_
    refine m_ci (m_runV (n := 1) (rest := []) ⟨hx, hb, hml, hown, hG⟩ (c_howMany l X q A n ad g wm dy tl hs t (nI 1 - 1) 0 hn hkd) kw_401 kw_403 kw_3 kw_18 kw_404 (by decide +kernel) (rl_ok (by omega) (by decide)) hF hz hS (q0 := 10) rfl rfl rfl hl.1 rfl (Nat.le_of_ble_eq_true rfl) dX8_count_57 ⟨Nat.le_refl 0, Nat.le_refl 0⟩) hS (fun r_1 w1 H locs hw1 hS => ?_)
    obtain ⟨rfl, rfl⟩ := hw1
    exact m_iret hx hb hr hlk hS (⟨rfl, rfl⟩) (Nat.le_refl 0) (Nat.le_refl 0) dX8_count_60
  | 2, _ =>
    refine lv_tableIn (off := 52) (tgt := 53) hx hb dX8_count_1 (by decide) (by decide) (by decide) (by decide) ?_
    refine lv_aload_n hx hb dX8_count_53 rfl (lv_at hl 0 rfl) ?_
    refine lv_iload_n hx hb dX8_count_54 rfl (lv_at hl 1 rfl) ?_
    refine lv_iconst (v := 1) hx hb dX8_count_55 (by decide) ?_
    refine lv_isub hx hb dX8_count_56 ?_
    refine m_ci (m_runV (n := 1) (rest := []) ⟨hx, hb, hml, hown, hG⟩ (c_howMany l X q A n ad g wm dy tl hs t (nI 2 - 1) 0 hn hkd) kw_401 kw_403 kw_3 kw_18 kw_404 (by decide +kernel) (rl_ok (by omega) (by decide)) hF hz hS (q0 := 10) rfl rfl rfl hl.1 rfl (Nat.le_of_ble_eq_true rfl) dX8_count_57 ⟨Nat.le_refl 0, Nat.le_refl 0⟩) hS (fun r_1 w1 H locs hw1 hS => ?_)
    obtain ⟨rfl, rfl⟩ := hw1
    exact m_iret hx hb hr hlk hS (⟨rfl, rfl⟩) (Nat.le_refl 0) (Nat.le_refl 0) dX8_count_60
  | 3, _ =>
    refine lv_tableIn (off := 52) (tgt := 53) hx hb dX8_count_1 (by decide) (by decide) (by decide) (by decide) ?_
    refine lv_aload_n hx hb dX8_count_53 rfl (lv_at hl 0 rfl) ?_
    refine lv_iload_n hx hb dX8_count_54 rfl (lv_at hl 1 rfl) ?_
    refine lv_iconst (v := 1) hx hb dX8_count_55 (by decide) ?_
    refine lv_isub hx hb dX8_count_56 ?_
    refine m_ci (m_runV (n := 1) (rest := []) ⟨hx, hb, hml, hown, hG⟩ (c_howMany l X q A n ad g wm dy tl hs t (nI 3 - 1) 0 hn hkd) kw_401 kw_403 kw_3 kw_18 kw_404 (by decide +kernel) (rl_ok (by omega) (by decide)) hF hz hS (q0 := 10) rfl rfl rfl hl.1 rfl (Nat.le_of_ble_eq_true rfl) dX8_count_57 ⟨Nat.le_refl 0, Nat.le_refl 0⟩) hS (fun r_1 w1 H locs hw1 hS => ?_)
    obtain ⟨rfl, rfl⟩ := hw1
    exact m_iret hx hb hr hlk hS (⟨rfl, rfl⟩) (Nat.le_refl 0) (Nat.le_refl 0) dX8_count_60
  | 4, _ =>
    refine lv_tableIn (off := 52) (tgt := 53) hx hb dX8_count_1 (by decide) (by decide) (by decide) (by decide) ?_
    refine lv_aload_n hx hb dX8_count_53 rfl (lv_at hl 0 rfl) ?_
    refine lv_iload_n hx hb dX8_count_54 rfl (lv_at hl 1 rfl) ?_
    refine lv_iconst (v := 1) hx hb dX8_count_55 (by decide) ?_
    refine lv_isub hx hb dX8_count_56 ?_
    refine m_ci (m_runV (n := 1) (rest := []) ⟨hx, hb, hml, hown, hG⟩ (c_howMany l X q A n ad g wm dy tl hs t (nI 4 - 1) 0 hn hkd) kw_401 kw_403 kw_3 kw_18 kw_404 (by decide +kernel) (rl_ok (by omega) (by decide)) hF hz hS (q0 := 10) rfl rfl rfl hl.1 rfl (Nat.le_of_ble_eq_true rfl) dX8_count_57 ⟨Nat.le_refl 0, Nat.le_refl 0⟩) hS (fun r_1 w1 H locs hw1 hS => ?_)
    obtain ⟨rfl, rfl⟩ := hw1
    exact m_iret hx hb hr hlk hS (⟨rfl, rfl⟩) (Nat.le_refl 0) (Nat.le_refl 0) dX8_count_60
  | 5, _ =>
    refine lv_tableIn (off := 52) (tgt := 53) hx hb dX8_count_1 (by decide) (by decide) (by decide) (by decide) ?_
    refine lv_aload_n hx hb dX8_count_53 rfl (lv_at hl 0 rfl) ?_
    refine lv_iload_n hx hb dX8_count_54 rfl (lv_at hl 1 rfl) ?_
    refine lv_iconst (v := 1) hx hb dX8_count_55 (by decide) ?_
    refine lv_isub hx hb dX8_count_56 ?_
    refine m_ci (m_runV (n := 1) (rest := []) ⟨hx, hb, hml, hown, hG⟩ (c_howMany l X q A n ad g wm dy tl hs t (nI 5 - 1) 0 hn hkd) kw_401 kw_403 kw_3 kw_18 kw_404 (by decide +kernel) (rl_ok (by omega) (by decide)) hF hz hS (q0 := 10) rfl rfl rfl hl.1 rfl (Nat.le_of_ble_eq_true rfl) dX8_count_57 ⟨Nat.le_refl 0, Nat.le_refl 0⟩) hS (fun r_1 w1 H locs hw1 hS => ?_)
    obtain ⟨rfl, rfl⟩ := hw1
    exact m_iret hx hb hr hlk hS (⟨rfl, rfl⟩) (Nat.le_refl 0) (Nat.le_refl 0) dX8_count_60
  | 6, _ =>
    refine lv_tableIn (off := 60) (tgt := 61) hx hb dX8_count_1 (by decide) (by decide) (by decide) (by decide) ?_
    refine lv_aload_n hx hb dX8_count_61 rfl (lv_at hl 0 rfl) ?_
    refine m_get (v := .int dy) hx hb hG hown hF hS (10) rfl rfl iG_8 5 (by decide) kw_61 (fun _ h9 => h9) rfl dX8_count_62 ?_
    exact m_iret hx hb hr hlk hS (⟨rfl, rfl⟩) (Nat.le_refl 0) (Nat.le_refl 0) dX8_count_65
  | 7, _ =>
    refine lv_tableIn (off := 65) (tgt := 66) hx hb dX8_count_1 (by decide) (by decide) (by decide) (by decide) ?_
    refine lv_aload_n hx hb dX8_count_66 rfl (lv_at hl 0 rfl) ?_
    refine m_get (v := .int tl) hx hb hG hown hF hS (10) rfl rfl iG_8 6 (by decide) kw_62 (fun _ h9 => h9) rfl dX8_count_67 ?_
    exact m_iret hx hb hr hlk hS (⟨rfl, rfl⟩) (Nat.le_refl 0) (Nat.le_refl 0) dX8_count_70
set_option maxHeartbeats 4000000 in
set_option maxRecDepth 100000 in
theorem c_count_bad (l : Launch) (X : Cx) (q : Nat → Nat × va_E) (A : Nat → Nat) (n : Nat) (ad : Nat → Nat) (g : Nat → Rc) (wm dy tl : Int32) (hs : Nat → Int32) (t : Tr) (k : Int32) (f : Nat) (h0 : k.toInt < 0 ∨ 7 < k.toInt) : cI l yX8_count cX8_count 2 (some .int) (rl f) X [.ref (A 0), .int k] (wT X (kC q A n ad g wm dy tl hs) false t) (fun r w => r = -2 ∧ w = wT X (kC q A n ad g wm dy tl hs) false t) := by
  refine met_start (by decide) (Nat.le_of_ble_eq_true rfl) ?_
  intro p e s m below meth c ls fx hS hl
  obtain ⟨hx, hb, hr, hml, hown, hG, hlk, hF, hz, hnm⟩ := fx
  have hown : s.vm.findClass RX8 = some m.cls := hown
  have hl : lv_has ls 2 [(0, .ref (A 0)), (1, .int k)] := hl
  refine lv_iload_n hx hb dX8_count_0 rfl (lv_at hl 1 rfl) ?_
  refine lv_tableOut (tgt := 71) hx hb dX8_count_1 h0 (by decide) ?_
  refine lv_bipush (v := -2) hx hb dX8_count_71 (by decide) ?_
  exact m_iret hx hb hr hlk hS (⟨rfl, rfl⟩) (Nat.le_refl 0) (Nat.le_refl 0) dX8_count_73
