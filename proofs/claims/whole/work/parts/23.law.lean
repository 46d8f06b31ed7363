set_option maxHeartbeats 4000000 in
set_option maxRecDepth 100000 in
theorem law_loop {p : Program} {l : Launch} {e : Env} {s : State} {m : MethodId} {below : List Frame} {meth : Method} {c : Code} {X : Cx} {b L : Nat} {xs : Nat → Int32} {A B : Nat → Nat} (lc : LC p s m c X b L xs) (hr : meth.sig.returnType = ret) (hlk : meth.locks = false) (hX0 : X.2.2.2 = s.heap.size) : ∀ (d k : Nat) (n : Nat) (ad : Nat → Nat) (g g' : Nat → Rc) (wm dy tl : Int32) (hs : Nat → Int32) (t : Tr) (H : Heap) (locs : List Loc) (ls : Array Slot), L < 4 * (k + d) → 4 * k ≤ L + 4 → Inv n g g' dy t → mS X s (lW X A B n ad g g' wm dy tl hs t) H locs → lv_has ls 4 [(3, .int (nI (4 * k))), (0, .ref b), (1, .ref (A 0)), (2, .ref (B 0))] → W p l e room_1 s m #[Value.ref b] below meth c H locs (15 + k) (401 + 8 * k) (lw_Z below #[Value.ref b] s) (F0 m 18 ls []) := by
  intro d
  induction d with
  | zero =>
    intro k n ad g g' wm dy tl hs t H locs ls hd hk hI hS hl
    obtain ⟨hx, hb, hml, hown, hG, hF, hz, hX, hbl, hbA, hL⟩ := id lc
    refine lv_iload_n hx hb dL_law_18 rfl (lv_at hl 0 rfl) ?_
    refine lv_aload_n hx hb dL_law_19 rfl (lv_at hl 1 rfl) ?_
    refine va_slen hx hb hX hbl hbA hS.2 dL_law_20 ?_
    refine lv_iconst (v := 4) hx hb dL_law_21 (by decide) ?_
    refine lv_isub hx hb dL_law_22 ?_
    have e1 : (nI L - 4).toInt = (L : Int) - 4 := pk_sub_toInt (a := L) (b := 4) (by omega) (by omega)
    have e2 : (nI (4 * k)).toInt = ((4 * k : Nat) : Int) := nI_toInt (by omega)
    refine lv_icmp_gt (tgt := 428) hx hb dL_law_23 (by decide) (fun c_1 => ?_) (fun c_1 => absurd (by rw [Int32.lt_iff_toInt_lt, e2]; exact Int.lt_of_le_of_lt (Int.le_of_eq e1) (by omega)) c_1)
    refine lv_iconst (v := 1) hx hb dL_law_428 (by decide) ?_
    refine va_forget (fun q hq => Nat.le_trans (Nat.le_of_eq hX0.symm) (hS.2.2.2 q hq)) ?_
    refine W.widen (k := 600000) (n := 7302250) (by omega) (by omega) ?_
    exact lw_ret hx hb hr hlk dL_law_429
  | succ d ih =>
    intro k n ad g g' wm dy tl hs t H locs ls hd hk hI hS hl
    obtain ⟨hx, hb, hml, hown, hG, hF, hz, hX, hbl, hbA, hL⟩ := id lc
    refine lv_iload_n hx hb dL_law_18 rfl (lv_at hl 0 rfl) ?_
    refine lv_aload_n hx hb dL_law_19 rfl (lv_at hl 1 rfl) ?_
    refine va_slen hx hb hX hbl hbA hS.2 dL_law_20 ?_
    refine lv_iconst (v := 4) hx hb dL_law_21 (by decide) ?_
    refine lv_isub hx hb dL_law_22 ?_
    have e1 : (nI L - 4).toInt = (L : Int) - 4 := pk_sub_toInt (a := L) (b := 4) (by omega) (by omega)
    have e2 : (nI (4 * k)).toInt = ((4 * k : Nat) : Int) := nI_toInt (by omega)
    refine lv_icmp_gt (tgt := 428) hx hb dL_law_23 (by decide) (fun c_2 => ?_) (fun c_2 => ?_)
    · refine lv_iconst (v := 1) hx hb dL_law_428 (by decide) ?_
      refine va_forget (fun q hq => Nat.le_trans (Nat.le_of_eq hX0.symm) (hS.2.2.2 q hq)) ?_
      refine W.widen (k := 600000) (n := 7302250) (by omega) (by omega) ?_
      exact lw_ret hx hb hr hlk dL_law_429
    · have hlt : 4 * k + 4 ≤ L := by
        apply Nat.le_of_not_lt
        intro q
        apply c_2
        rw [Int32.lt_iff_toInt_lt, e2]
        exact Int.lt_of_le_of_lt (Int.le_of_eq e1) (by omega)
      have kk : ∀ (n : Nat) (ad : Nat → Nat) (g g' : Nat → Rc) (wm dy tl : Int32) (hs : Nat → Int32) (t : Tr) (H : Heap) (locs : List Loc), Inv n g g' dy t → mS X s (lW X A B n ad g g' wm dy tl hs t) H locs → W p l e room_1 s m #[Value.ref b] below meth c H locs (15 + k + 1) (401 + 8 * k + 8) (lw_Z below #[Value.ref b] s) (F0 m 422 ls []) := by
        intro n ad g g' wm dy tl hs t H locs hI hS
        obtain ⟨x_3, ex_3⟩ : ∃ y : Int32, y = (nI (4 * k)) + 4 := ⟨_, rfl⟩
        refine lv_iinc (v := x_3) (lv' := [(3, .int x_3), (0, .ref b), (1, .ref (A 0)), (2, .ref (B 0))]) hx hb dL_law_422 hl (k := 0) rfl (by rw [ex_3]; rfl) (by decide) rfl (fun ls hl => ?_)
        refine lv_goto (tgt := 18) hx hb dL_law_425 (by decide) ?_
        refine W.widen (k := 15 + (k + 1)) (n := 401 + 8 * (k + 1)) (by omega) (by omega) ?_
        have ex3 : x_3 = nI (4 * (k + 1)) := by rw [ex_3]; exact nI_add (4 * k) 4
        subst ex3
        exact ih (k + 1) n ad g g' wm dy tl hs t H locs ls (by omega) (by omega) hI hS (lv_sub hl [0, 1, 2, 3] rfl)
      refine lv_aload_n hx hb dL_law_26 rfl (lv_at hl 1 rfl) ?_
      refine lv_iload_n hx hb dL_law_27 rfl (lv_at hl 0 rfl) ?_
      refine m_sld (v := xs (4 * k)) hx hb hX hbl hbA hS (4 * k) rfl (by omega) hL rfl dL_law_28 ?_
      refine lv_bipush (v := 15) hx hb dL_law_29 (by decide) ?_
      refine lv_iand hx hb dL_law_31 ?_
      obtain ⟨cs, hcs, ec⟩ := pk_andE (xs (4 * k)) (m := 15) 4 (by decide)
      rw [ec]
      have hcs : cs < 16 := hcs
      clear ec
      have hc1 : 15 + k ≤ 1000 := by omega
      have hc2 : 401 + 8 * k ≤ 10000 := by omega
      match cs, hcs with
      | 0, _ =>
        refine lv_tableIn (off := 64) (tgt := 96) hx hb dL_law_32 (by decide) (by decide) (by decide) (by decide) ?_
        exact lc_batch lc hI hlt hc1 hc2 hS hl kk
      | 1, _ =>
        refine lv_tableIn (off := 97) (tgt := 129) hx hb dL_law_32 (by decide) (by decide) (by decide) (by decide) ?_
        exact lc_ask lc hI hlt hc1 hc2 hS hl kk
      | 2, _ =>
        refine lv_tableIn (off := 140) (tgt := 172) hx hb dL_law_32 (by decide) (by decide) (by decide) (by decide) ?_
        exact lc_trace lc hI hlt hc1 hc2 hS hl kk
      | 3, _ =>
        refine lv_tableIn (off := 163) (tgt := 195) hx hb dL_law_32 (by decide) (by decide) (by decide) (by decide) ?_
        exact lc_room lc hI hlt hc1 hc2 hS hl kk
      | 4, _ =>
        refine lv_tableIn (off := 186) (tgt := 218) hx hb dL_law_32 (by decide) (by decide) (by decide) (by decide) ?_
        exact lc_heat lc hI hlt hc1 hc2 hS hl kk
      | 5, _ =>
        refine lv_tableIn (off := 219) (tgt := 251) hx hb dL_law_32 (by decide) (by decide) (by decide) (by decide) ?_
        exact lc_minutes lc hI hlt hc1 hc2 hS hl kk
      | 6, _ =>
        refine lv_tableIn (off := 242) (tgt := 274) hx hb dL_law_32 (by decide) (by decide) (by decide) (by decide) ?_
        exact lc_bake lc hI hlt hc1 hc2 hS hl kk
      | 7, _ =>
        refine lv_tableIn (off := 275) (tgt := 307) hx hb dL_law_32 (by decide) (by decide) (by decide) (by decide) ?_
        exact lc_out lc hI hlt hc1 hc2 hS hl kk
      | 8, _ =>
        refine lv_tableIn (off := 298) (tgt := 330) hx hb dL_law_32 (by decide) (by decide) (by decide) (by decide) ?_
        exact lc_sell lc hI hlt hc1 hc2 hS hl kk
      | 9, _ =>
        refine lv_tableIn (off := 321) (tgt := 353) hx hb dL_law_32 (by decide) (by decide) (by decide) (by decide) ?_
        exact lc_day lc hI hlt hc1 hc2 hS hl kk
      | 10, _ =>
        refine lv_tableIn (off := 334) (tgt := 366) hx hb dL_law_32 (by decide) (by decide) (by decide) (by decide) ?_
        exact lc_told lc hI hlt hc1 hc2 hS hl kk
      | 11, _ =>
        refine lv_tableIn (off := 367) (tgt := 399) hx hb dL_law_32 (by decide) (by decide) (by decide) (by decide) ?_
        exact lc_count lc hI hlt hc1 hc2 hS hl kk
      | 12, _ =>
        refine lv_tableOut (tgt := 422) hx hb dL_law_32 (by decide) (by decide) ?_
        refine W.widen (k := 15 + k + 1) (n := 401 + 8 * k + 8) (by omega) (by omega) ?_
        exact kk _ _ _ _ _ _ _ _ _ _ _ hI hS
      | 13, _ =>
        refine lv_tableOut (tgt := 422) hx hb dL_law_32 (by decide) (by decide) ?_
        refine W.widen (k := 15 + k + 1) (n := 401 + 8 * k + 8) (by omega) (by omega) ?_
        exact kk _ _ _ _ _ _ _ _ _ _ _ hI hS
      | 14, _ =>
        refine lv_tableOut (tgt := 422) hx hb dL_law_32 (by decide) (by decide) ?_
        refine W.widen (k := 15 + k + 1) (n := 401 + 8 * k + 8) (by omega) (by omega) ?_
        exact kk _ _ _ _ _ _ _ _ _ _ _ hI hS
      | 15, _ =>
        refine lv_tableOut (tgt := 422) hx hb dL_law_32 (by decide) (by decide) ?_
        refine W.widen (k := 15 + k + 1) (n := 401 + 8 * k + 8) (by omega) (by omega) ?_
        exact kk _ _ _ _ _ _ _ _ _ _ _ hI hS
      | z16 + 16, h16 => exact absurd h16 (by omega)
set_option maxHeartbeats 4000000 in
set_option maxRecDepth 100000 in
theorem bfn_0 {ad : Nat → Nat} : bfn 0 ad = fun _ => none := by funext j; simp [bfn]
theorem pool_0 {T : Nat} {ad : Nat → Nat} {g : Nat → Rc} : pool T 0 ad g = [] := rfl
/-- what the start's tables say of classes, arrays and casts -/
theorem start_F {s : State} {b : Nat} (hts : ∀ w ∈ lw_tbl, w.before #[Value.ref b] s = true) (hgv : (Jvm.Cond.and given_1 narrow_1).before #[Value.ref b] s = true) : ∃ X : Cx, X.2.2.2 = s.heap.size ∧ mF X s := by
  have hG : ∀ w ∈ G, w.before #[Value.ref b] s = true := fun w h => hts w (G_tbl w h)
  have hfl := flat_of_before _ hgv
  obtain ⟨c0, i0, k0⟩ := u_known (C := RX2) (T := TD) (N := 8) (n := 8) hG iG_0 (hG _ kw_215)
  obtain ⟨c1, i1, k1⟩ := u_known (C := RX7) (T := TD) (N := 8) (n := 8) hG iG_1 (hG _ kw_90)
  obtain ⟨c2, i2, k2⟩ := u_known (C := RX4) (T := TD) (N := 8) (n := 8) hG iG_2 (hG _ kw_141)
  obtain ⟨c3, i3, k3⟩ := u_known (C := RX3) (T := TD) (N := 8) (n := 8) hG iG_3 (hG _ kw_156)
  obtain ⟨c4, i4, k4⟩ := u_known (C := RX0) (T := TD) (N := 8) (n := 8) hG iG_4 (hG _ kw_171)
  obtain ⟨c5, i5, k5⟩ := u_known (C := RX5) (T := TD) (N := 8) (n := 8) hG iG_5 (hG _ kw_186)
  obtain ⟨c6, i6, k6⟩ := u_known (C := RX1) (T := TD) (N := 8) (n := 8) hG iG_6 (hG _ kw_201)
  obtain ⟨c7, i7, k7⟩ := u_known (C := RX6) (T := TX6) (N := 3) (n := 3) hG iG_7 (hG _ kw_40)
  obtain ⟨c8, i8, k8⟩ := u_known (C := RX8) (T := TX8) (N := 7) (n := 7) hG iG_8 (hG _ kw_30)
  obtain ⟨c9, i9, k9⟩ := u_known (C := RX9) (T := TX9) (N := 15) (n := 15) hG iG_9 (hG _ kw_466)
  obtain ⟨cI, kA, compA, a1, a2, a3⟩ := Cond.arrayClass_spec (hG _ kw_55)
  obtain ⟨compO, cO, kO, o1, o2, o3, o4, o5⟩ := Cond.arrayOver_spec (hts (.arrayOver (.object RX2)) (by decide +kernel))
  refine ⟨((fun k => match k with
    | 0 => c0
    | 1 => c1
    | 2 => c2
    | 3 => c3
    | 4 => c4
    | 5 => c5
    | 6 => c6
    | 7 => c7
    | 8 => c8
    | _ => c9, fun k => match k with
    | 0 => i0
    | 1 => i1
    | 2 => i2
    | 3 => i3
    | 4 => i4
    | 5 => i5
    | 6 => i6
    | 7 => i7
    | 8 => i8
    | _ => i9), cI, cO, s.heap.size), rfl, ⟨fun k q hq => ?_, fun k q hq => ?_⟩, va_AO.of (hts (.arrayOver (.object RX2)) (by decide +kernel)), ?_⟩
  · match k, hq with
    | 0, hq => cases hq; exact k0
    | 1, hq => cases hq; exact k1
    | 2, hq => cases hq; exact k2
    | 3, hq => cases hq; exact k3
    | 4, hq => cases hq; exact k4
    | 5, hq => cases hq; exact k5
    | 6, hq => cases hq; exact k6
    | 7, hq => cases hq; exact k7
    | 8, hq => cases hq; exact k8
    | 9, hq => cases hq; exact k9
    | k + 10, hq => simp [classes] at hq
  · match k, hq with
    | 0, hq => cases hq; exact ⟨fun n z => ⟨fun k h => (by cases h), kA, a2, compA, a3⟩, a1⟩
    | 1, hq => cases hq; exact ⟨fun n z => ⟨fun k h => (by cases h), kO, o3, compO, o4⟩, kO, compO, o3, o4, o1, o5⟩
    | k + 2, hq => simp at hq
  · refine ⟨fun k h1 h2 => ?_, fun k h1 h2 => ?_, fun k h1 h2 => ?_, fun k h1 => ?_, fun k h1 h2 => ?_, fun k h1 => ?_⟩
    · match k, h1, h2 with
      | 1, _, _ => exact va_tabs rfl rfl (hts (.castable RX7 RX2) (by decide +kernel))
      | 2, _, _ => exact va_tabs rfl rfl (hts (.castable RX4 RX2) (by decide +kernel))
      | 3, _, _ => exact va_tabs rfl rfl (hts (.castable RX3 RX2) (by decide +kernel))
      | 4, _, _ => exact va_tabs rfl rfl (hts (.castable RX0 RX2) (by decide +kernel))
      | 5, _, _ => exact va_tabs rfl rfl (hts (.castable RX5 RX2) (by decide +kernel))
      | 6, _, _ => exact va_tabs rfl rfl (hts (.castable RX1 RX2) (by decide +kernel))
    · match k, h1, h2 with
      | 2, _, _ => exact va_tabs rfl rfl (hts (.castable RX4 RX4) (by decide +kernel))
      | 3, _, _ => exact va_tabs rfl rfl (hts (.castable RX3 RX4) (by decide +kernel))
      | 4, _, _ => exact va_tabs rfl rfl (hts (.castable RX0 RX4) (by decide +kernel))
    · match k, h1, h2 with
      | 5, _, _ => exact va_tabs rfl rfl (hts (.castable RX5 RX5) (by decide +kernel))
      | 6, _, _ => exact va_tabs rfl rfl (hts (.castable RX1 RX5) (by decide +kernel))
    · match k, h1 with
      | 0, _ => exact va_Nc.of (hfl (.not (.castable RX2 RX4)) (by decide +kernel))
      | 1, _ => exact va_Nc.of (hfl (.not (.castable RX7 RX4)) (by decide +kernel))
    · match k, h1, h2 with
      | 5, _, _ => exact va_Nc.of (hfl (.not (.castable RX5 RX4)) (by decide +kernel))
      | 6, _, _ => exact va_Nc.of (hfl (.not (.castable RX1 RX4)) (by decide +kernel))
    · match k, h1 with
      | 0, _ => exact va_Nc.of (hfl (.not (.castable RX2 RX5)) (by decide +kernel))
      | 1, _ => exact va_Nc.of (hfl (.not (.castable RX7 RX5)) (by decide +kernel))
      | 2, _ => exact va_Nc.of (hfl (.not (.castable RX4 RX5)) (by decide +kernel))
      | 3, _ => exact va_Nc.of (hfl (.not (.castable RX3 RX5)) (by decide +kernel))
      | 4, _ => exact va_Nc.of (hfl (.not (.castable RX0 RX5)) (by decide +kernel))
set_option maxHeartbeats 4000000 in
set_option maxRecDepth 100000 in
/-- THE LAW, from its entry -/
theorem whole_start {p : Program} {e : Env} {s : State} {m : MethodId} {below : List Frame} {meth : Method} {c : Code} (l : Launch) {b L : Nat} {xs : Nat → Int32} (hL : L ≤ 2048) (C0 : lw_At p s m meth c b L xs) : W p l e room_1 s m #[Value.ref b] below meth c s.heap [] 0 0 (lw_Z below #[Value.ref b] s) (entryFrame m ([Value.ref b] : List Value).toArray 4) := by
  obtain ⟨hx, hb, hr, hml, hown, hts, hX, hbl, hlk, hgv⟩ := id C0
  obtain ⟨X, hX0, hF⟩ := start_F hts hgv
  have hG : ∀ w ∈ G, w.before #[Value.ref b] s = true := fun w h => hts w (G_tbl w h)
  have hown : s.vm.findClass RL = some m.cls := hown
  have hz : X.2.2.2 ≤ s.heap.size := Nat.le_of_eq hX0
  have hbA : ¬ xA X b := fun q => by have q2 : X.2.2.2 ≤ b := q; omega
  have lc : LC p s m c X b L xs := ⟨hx, hb, hml, hown, hG, hF, hz, hX, hbl, hbA, hL⟩
  have hS : mS X s [] s.heap [] := ⟨⟨fun k q h => by simp at h, ⟨fun i j p q h => by simp at h, fun k q h => by simp at h⟩⟩, va_S.rf⟩
  have hl := lv_entry ([.ref b]) (n := 4) (Nat.le_of_ble_eq_true rfl)
  rw [lg_entry_eq]
  generalize (lg_sl ([.ref b]) ++ List.replicate (4 - (lg_sl ([.ref b])).length) Slot.unset).toArray = ls at hl ⊢
  have hl : lv_has ls 4 [(0, .ref b)] := hl
  refine m_new hx hb hG hown hF hz hS (ci := 8) rfl iG_8 tyX8_ok kw_29 kw_30 kw_18 [.null, .null, .null, .int 0, .int 0, .int 0, .int 0] (fun j hj => by rcases (show j = 0 ∨ j = 1 ∨ j = 2 ∨ j = 3 ∨ j = 4 ∨ j = 5 ∨ j = 6 by omega) with rfl | rfl | rfl | rfl | rfl | rfl | rfl <;> rfl) (by show 0 + 1 ≤ 600000; omega) (by show 0 + 7 ≤ 7302250; omega) dL_law_0 (fun Ro H hS => ?_)
  have hS : mS X s [(Ro, .inr (8, [.null, .null, .null, .int 0, .int 0, .int 0, .int 0]))] H [] := hS
  refine lv_dup hx hb dL_law_3 rfl ?_
  refine m_cv (m_runI (n := 0) (rest := [.ref Ro]) ⟨hx, hb, hml, hown, hG⟩ (c_Rminit l X Ro 2 (by decide)) kw_31 kw_32 kw_18 kw_33 rfl (by decide +kernel) ⟨by decide, by decide⟩ hF hz hS rfl hl.1 rfl (Nat.le_of_ble_eq_true rfl) dL_law_4 ⟨by show 0 + 1 + 4 ≤ 600000; omega, by show 0 + 7 + 56 ≤ 7302250; omega⟩) hS (fun w1 H locs hw1 hS => ?_)
  obtain ⟨BA, HA, T, TA, rfl⟩ := hw1
  refine lv_astore_n (lv' := [(1, .ref Ro), (0, .ref b)]) hx hb dL_law_7 rfl hl (by decide) rfl (fun ls hl => ?_)
  refine m_new hx hb hG hown hF hz hS (ci := 9) rfl iG_9 tyX9_ok kw_465 kw_466 kw_20 [.int 0, .null, .null, .null, .null, .null, .null, .null, .int 0, .null, .int 0, .int 0, .null, .int 0, .int 0] (fun j hj => by rcases (show j = 0 ∨ j = 1 ∨ j = 2 ∨ j = 3 ∨ j = 4 ∨ j = 5 ∨ j = 6 ∨ j = 7 ∨ j = 8 ∨ j = 9 ∨ j = 10 ∨ j = 11 ∨ j = 12 ∨ j = 13 ∨ j = 14 by omega) with rfl | rfl | rfl | rfl | rfl | rfl | rfl | rfl | rfl | rfl | rfl | rfl | rfl | rfl | rfl <;> rfl) (by show 0 + 1 + 4 + 1 ≤ 600000; omega) (by show 0 + 7 + 56 + 15 ≤ 7302250; omega) dL_law_8 (fun Mo H hS => ?_)
  have hS : mS X s [(Mo, .inr (9, [.int 0, .null, .null, .null, .null, .null, .null, .null, .int 0, .null, .int 0, .int 0, .null, .int 0, .int 0])), (Ro, .inr (8, [.ref BA, .ref HA, .ref T, .int 0, .int 20, .int 0, .int 0])), (BA, .inl (X.2.2.1, 40, .inr (.inr (.inr (.inr (fun _ => none)))))), (HA, .inl (X.2.1, 3, .inl (fun _ => 0))), (T, .inr (7, [.ref TA, .int 0, .int 0])), (TA, .inl (X.2.1, 10, .inl (fun _ => 0)))] H locs := ⟨⟨hS.1.1.sub [5, 0, 1, 2, 3, 4] rfl, hS.1.2.sub [5, 0, 1, 2, 3, 4] (by decide) rfl⟩, hS.2⟩
  refine lv_dup hx hb dL_law_11 rfl ?_
  refine m_cv (m_runI (n := 0) (rest := [.ref Mo]) ⟨hx, hb, hml, hown, hG⟩ (M_init l X _ _ _ _ _ Mo 1 (by decide)) kw_467 kw_468 kw_20 kw_469 rfl (by decide +kernel) ⟨by decide, by decide⟩ hF hz hS rfl hl.1 rfl (Nat.le_of_ble_eq_true rfl) dL_law_12 ⟨by show 0 + 1 + 4 + 1 + 9 ≤ 600000; omega, by show 0 + 7 + 56 + 15 + 323 ≤ 7302250; omega⟩) hS (fun w2 H locs hw2 hS => ?_)
  obtain ⟨b1, b2, b3, b4, b5, b6, b7, b9, b12, rfl⟩ := hw2
  have hS : mS X s (lW X (fun k => match k with | 0 => Ro | 1 => BA | 2 => HA | 3 => T | _ => TA) (fun k => match k with | 0 => Mo | 1 => b1 | 2 => b2 | 3 => b3 | 4 => b4 | 5 => b5 | 6 => b6 | 7 => b7 | 8 => b9 | _ => b12) 0 (fun _ => 0) (fun _ _ => 0) (fun _ _ => 0) 20 0 0 (fun _ => 0) (0, fun _ => 0)) H locs := by
    unfold lW kC
    rw [bfn_0, pool_0]
    exact ⟨⟨hS.1.1.sub [0, 6, 7, 8, 9, 10, 11, 12, 13, 14, 1, 2, 3, 4, 5] rfl, hS.1.2.sub [0, 6, 7, 8, 9, 10, 11, 12, 13, 14, 1, 2, 3, 4, 5] (by decide) rfl⟩, hS.2⟩
  refine lv_astore_n (lv' := [(2, .ref Mo), (1, .ref Ro), (0, .ref b)]) hx hb dL_law_15 rfl hl (by decide) rfl (fun ls hl => ?_)
  refine lv_iconst (v := 0) hx hb dL_law_16 (by decide) ?_
  refine lv_istore_n (lv' := [(3, .int 0), (2, .ref Mo), (1, .ref Ro), (0, .ref b)]) hx hb dL_law_17 rfl hl (by decide) rfl (fun ls hl => ?_)
  refine W.widen (k := 15 + 0) (n := 401 + 8 * 0) (Nat.le_refl 15) (Nat.le_refl 401) ?_
  exact law_loop lc hr hlk hX0 (L + 1) 0 0 _ _ _ _ _ _ _ _ H locs ls (by omega) (by omega) ⟨by decide, fun i h => by omega, fun i h => by omega, fun i h => by omega, fun i h => by omega, fun i _ f => rfl, ⟨0, by decide, rfl⟩, by decide⟩ hS (lv_sub hl [0, 3, 2, 1] rfl)
