/-! ===== the two states side by side: one record of a batch in the class, one in the reference ===== -/
def eqv (a b : Rc) : Prop := (∀ f, f ≠ 7 → a f = b f) ∧ (a 3 = 2 → a 7 = b 7)
theorem eqv.kq {a b : Rc} (h : eqv a b) : kd a = kd b := by unfold kd; rw [h.1 0 (by decide)]
theorem eqv_up {a b : Rc} {f : Nat} {v : Int32} (h : eqv a b) (hf : f ≠ 7) (h3 : f ≠ 3) : eqv (va_up a f v) (va_up b f v) := by
  refine ⟨fun k hk => ?_, fun h2 => ?_⟩
  · by_cases e : k = f
    · subst e; rw [va_up_self, va_up_self]
    · rw [va_up_ne _ _ e, va_up_ne _ _ e]; exact h.1 k hk
  · rw [va_up_ne _ _ (Ne.symm h3)] at h2
    rw [va_up_ne _ _ (Ne.symm hf), va_up_ne _ _ (Ne.symm hf)]; exact h.2 h2
theorem eqv_st {a b : Rc} {v : Int32} (h : eqv a b) (hv : ¬ v = 2) : eqv (va_up a 3 v) (va_up b 3 v) := by
  refine ⟨fun k hk => ?_, fun h2 => ?_⟩
  · by_cases e : k = 3
    · subst e; rw [va_up_self, va_up_self]
    · rw [va_up_ne _ _ e, va_up_ne _ _ e]; exact h.1 k hk
  · rw [va_up_self] at h2; exact absurd h2 hv
theorem askV_eq {a b : Rc} (h : eqv a b) (k : Nat) (w : Int32) : askV a k w = askV b k w := by
  unfold askV; rw [h.kq, h.1 1 (by decide)]
theorem askT_eq {a b : Rc} (h : eqv a b) (k : Nat) : askT a k = askT b k := by
  unfold askT; rw [h.kq]
theorem toldV_eq {a b : Rc} (h : eqv a b) (k : Nat) : toldV a k = toldV b k := by
  unfold toldV
  rw [h.kq, ← h.1 0 (by decide), ← h.1 3 (by decide), ← h.1 4 (by decide), ← h.1 5 (by decide), ← h.1 6 (by decide)]
  by_cases h2 : a 3 = 2
  · rw [h.2 h2]
  · rw [if_neg h2, if_neg h2]
theorem sellV_eq {a b : Rc} {dy : Int32} (h : eqv a b) (h2 : a 3 = 2) : sellV dy a = sellV dy b := by
  unfold sellV worth
  rw [h.kq, h.1 1 (by decide), h.2 h2]
theorem cnt_eq {g g' : Nat → Rc} {v : Int32} : ∀ {n : Nat}, (∀ i, i < n → eqv (g i) (g' i)) → cnt g v n = cnt g' v n
  | 0, _ => rfl
  | n + 1, h => by
    rw [cnt, cnt, (h n (Nat.lt_succ_self n)).1 3 (by decide), cnt_eq (fun i hi => h i (by omega))]
theorem masm_eq {g g' : Nat → Rc} {v : Int32} : ∀ {n : Nat}, (∀ i, i < n → eqv (g i) (g' i)) → masm g v n = masm g' v n
  | 0, _ => rfl
  | n + 1, h => by
    rw [masm, masm, (h n (Nat.lt_succ_self n)).1 3 (by decide), (h n (Nat.lt_succ_self n)).1 6 (by decide), (h n (Nat.lt_succ_self n)).1 1 (by decide), masm_eq (fun i hi => h i (by omega))]
theorem countV_eq {g g' : Nat → Rc} {dy tl : Int32} {n : Nat} (h : ∀ i, i < n → eqv (g i) (g' i)) (k : Nat) : countV n g dy tl k = countV n g' dy tl k := by
  unfold countV
  have e : ∀ v, cnt g v n = cnt g' v n := fun _ => cnt_eq h
  simp only [e]
/-! ===== minutes ===== -/
theorem stepR_eqv {w : Int32} {a b : Rc} (h : eqv a b) : eqv (stepR w a) (stepR w b) := by
  unfold stepR
  rw [h.kq, h.1 1 (by decide), h.1 4 (by decide)]
  by_cases c : b 4 + riseV (kd b) w ≤ 2 * needV (kd b) (b 1)
  · rw [if_pos c, if_pos c]; exact eqv_up h (by decide) (by decide)
  · rw [if_neg c, if_neg c]; exact eqv_st (eqv_up h (by decide) (by decide)) (by decide)
theorem stepB_eqv {w : Int32} {a b : Rc} (h : eqv a b) : eqv (stepB w a) (stepB w b) := by
  unfold stepB
  rw [h.kq, h.1 5 (by decide)]
  by_cases c : b 5 + brownV (kd b) w ≤ 100
  · rw [if_pos c, if_pos c]; exact eqv_up h (by decide) (by decide)
  · rw [if_neg c, if_neg c]; exact eqv_st (eqv_up h (by decide) (by decide)) (by decide)
theorem stepM_eqv {w : Int32} {hs : Nat → Int32} {a b : Rc} (h : eqv a b) : eqv (stepM w hs a) (stepM w hs b) := by
  unfold stepM
  rw [h.1 3 (by decide), h.1 6 (by decide)]
  by_cases c : b 3 = 0
  · rw [if_pos c, if_pos c]; exact stepR_eqv h
  · rw [if_neg c, if_neg c]
    by_cases d : b 3 = 1
    · rw [if_pos d, if_pos d]; exact stepB_eqv h
    · rw [if_neg d, if_neg d]; exact h
theorem itG_eqv {w : Int32} {hs : Nat → Int32} {n : Nat} {g g' : Nat → Rc} (h : ∀ i, i < n → eqv (g i) (g' i)) : ∀ k, ∀ i, i < n → eqv (itG w hs n g k i) (itG w hs n g' k i)
  | 0 => h
  | k + 1 => fun i hi => by
    show eqv (gup (stepM w hs) (itG w hs n g k) n i) (gup (stepM w hs) (itG w hs n g' k) n i)
    rw [gup_lt hi, gup_lt hi]
    exact stepM_eqv (itG_eqv h k i hi)
theorem lostM_eqv {w : Int32} {hs : Nat → Int32} {g g' : Nat → Rc} : ∀ {n : Nat}, (∀ i, i < n → eqv (g i) (g' i)) → lostM w hs g n = lostM w hs g' n
  | 0, _ => rfl
  | n + 1, h => by
    have e := h n (Nat.lt_succ_self n)
    rw [lostM, lostM, e.kq, e.1 1 (by decide), e.1 3 (by decide), e.1 4 (by decide), e.1 5 (by decide), e.1 6 (by decide), lostM_eqv (fun i hi => h i (by omega))]
theorem lostS_eqv {w : Int32} {hs : Nat → Int32} {n : Nat} {g g' : Nat → Rc} (h : ∀ i, i < n → eqv (g i) (g' i)) : ∀ k, lostS w hs n g k = lostS w hs n g' k
  | 0 => rfl
  | k + 1 => by rw [lostS, lostS, lostS_eqv h k, lostM_eqv (itG_eqv h k)]
/-- k minutes of one batch -/
def itS (w : Int32) (hs : Nat → Int32) : Nat → Rc → Rc
  | 0, rc => rc
  | k + 1, rc => stepM w hs (itS w hs k rc)
theorem itS_s {w : Int32} {hs : Nat → Int32} : ∀ (k : Nat) (rc : Rc), itS w hs (k + 1) rc = itS w hs k (stepM w hs rc)
  | 0, _ => rfl
  | k + 1, rc => by
    show stepM w hs (itS w hs (k + 1) rc) = stepM w hs (itS w hs k (stepM w hs rc))
    rw [itS_s k rc]
theorem itS_fix {w : Int32} {hs : Nat → Int32} {rc : Rc} (h : stepM w hs rc = rc) : ∀ k, itS w hs k rc = rc
  | 0 => rfl
  | k + 1 => by rw [itS_s, h, itS_fix h k]
theorem stepM_4 {w : Int32} {hs : Nat → Int32} {rc : Rc} (h0 : ¬ rc 3 = 0) (h1 : ¬ rc 3 = 1) : stepM w hs rc = rc := by
  unfold stepM; rw [if_neg h0, if_neg h1]
theorem stepR_3 {w : Int32} {rc : Rc} (h : rc 3 = 0) : stepR w rc 3 = 0 ∨ stepR w rc 3 = 4 := by
  unfold stepR
  by_cases c : rc 4 + riseV (kd rc) w ≤ 2 * needV (kd rc) (rc 1)
  · rw [if_pos c, va_up_ne _ _ (by decide)]; exact Or.inl h
  · rw [if_neg c, va_up_self]; exact Or.inr rfl
theorem stepB_3 {w : Int32} {rc : Rc} (h : rc 3 = 1) : stepB w rc 3 = 1 ∨ stepB w rc 3 = 4 := by
  unfold stepB
  by_cases c : rc 5 + brownV (kd rc) w ≤ 100
  · rw [if_pos c, va_up_ne _ _ (by decide)]; exact Or.inl h
  · rw [if_neg c, va_up_self]; exact Or.inr rfl
theorem riseN_S {w : Int32} {hs : Nat → Int32} : ∀ (k : Nat) (rc : Rc), rc 3 = 0 ∨ rc 3 = 4 → riseN w k rc = itS w hs k rc
  | 0, _, _ => rfl
  | k + 1, rc, h => by
    by_cases c : rc 3 = 0
    · rw [riseN, if_pos c, itS_s, show stepM w hs rc = stepR w rc from by unfold stepM; rw [if_pos c], riseN_S k _ (stepR_3 c)]
    · have c4 : rc 3 = 4 := h.resolve_left c
      rw [riseN_0 c, itS_fix (stepM_4 c (by rw [c4]; decide))]
theorem brownN_S {w : Int32} {hs : Nat → Int32} {h : Int32} : ∀ (k : Nat) (rc : Rc), h = hs (rc 6).toNatClampNeg → rc 3 = 1 ∨ rc 3 = 4 → brownN h k rc = itS w hs k rc
  | 0, _, _, _ => rfl
  | k + 1, rc, eh, hc => by
    by_cases c : rc 3 = 1
    · rw [brownN, if_pos c, itS_s, show stepM w hs rc = stepB h rc from by unfold stepM; rw [if_neg (by rw [c]; decide), if_pos c, eh], brownN_S k _ (by rw [stepB_f (by decide) (by decide)]; exact eh) (stepB_3 c)]
    · have c4 : rc 3 = 4 := hc.resolve_left c
      rw [brownN_0 c, itS_fix (stepM_4 (by rw [c4]; decide) c)]
theorem minR_S {w : Int32} {hs : Nat → Int32} {N : Nat} {rc : Rc} : minR w hs N rc = itS w hs N rc := by
  unfold minR
  by_cases c : rc 3 = 0
  · rw [if_pos c, riseN_S N rc (Or.inl c)]
  · rw [if_neg c]
    by_cases d : rc 3 = 1
    · rw [if_pos d, brownN_S N rc rfl (Or.inl d)]
    · rw [if_neg d, itS_fix (stepM_4 c d)]
theorem itG_at {w : Int32} {hs : Nat → Int32} {n i : Nat} {g : Nat → Rc} (h : i < n) : ∀ k, itG w hs n g k i = itS w hs k (g i)
  | 0 => rfl
  | k + 1 => by
    show gup (stepM w hs) (itG w hs n g k) n i = stepM w hs (itS w hs k (g i))
    rw [gup_lt h, itG_at h k]
theorem itG_ge {w : Int32} {hs : Nat → Int32} {n i : Nat} {g : Nat → Rc} (h : n ≤ i) : ∀ k, itG w hs n g k i = g i
  | 0 => rfl
  | k + 1 => by
    show gup (stepM w hs) (itG w hs n g k) n i = g i
    rw [gup_ge h, itG_ge h k]
theorem minG {w : Int32} {hs : Nat → Int32} {n N : Nat} {g : Nat → Rc} : gup (minR w hs N) g n = itG w hs n g N := by
  funext i
  by_cases h : i < n
  · rw [gup_lt h, itG_at h, minR_S]
  · rw [gup_ge (by omega), itG_ge (by omega)]
theorem cnt_step {w : Int32} {hs : Nat → Int32} {n : Nat} {g : Nat → Rc} : ∀ m, m ≤ n → cnt (gup (stepM w hs) g n) 4 m = cnt g 4 m + lostM w hs g m
  | 0, _ => rfl
  | m + 1, h => by
    rw [cnt, cnt, lostM, gup_lt (show m < n by omega), cnt_step m (by omega)]
    by_cases c : g m 3 = 0
    · rw [if_pos c, if_neg (show ¬ g m 3 = 4 by rw [c]; decide)]
      by_cases d : g m 4 + riseV (kd (g m)) w ≤ 2 * needV (kd (g m)) (g m 1)
      · rw [if_pos d, if_neg]
        rw [show stepM w hs (g m) = va_up (g m) 4 (g m 4 + riseV (kd (g m)) w) from by unfold stepM; rw [if_pos c]; unfold stepR; rw [if_pos d], va_up_ne _ _ (by decide), c]; decide
      · rw [if_neg d, if_pos, Int32.add_assoc]
        rw [show stepM w hs (g m) = va_up (va_up (g m) 4 (g m 4 + riseV (kd (g m)) w)) 3 4 from by unfold stepM; rw [if_pos c]; unfold stepR; rw [if_neg d], va_up_self]
    · rw [if_neg c]
      by_cases c1 : g m 3 = 1
      · rw [if_pos c1, if_neg (show ¬ g m 3 = 4 by rw [c1]; decide)]
        by_cases d : g m 5 + brownV (kd (g m)) (hs (g m 6).toNatClampNeg) ≤ 100
        · rw [if_pos d, if_neg]
          rw [show stepM w hs (g m) = va_up (g m) 5 (g m 5 + brownV (kd (g m)) (hs (g m 6).toNatClampNeg)) from by unfold stepM; rw [if_neg c, if_pos c1]; unfold stepB; rw [if_pos d], va_up_ne _ _ (by decide), c1]; decide
        · rw [if_neg d, if_pos, Int32.add_assoc]
          rw [show stepM w hs (g m) = va_up (va_up (g m) 5 (g m 5 + brownV (kd (g m)) (hs (g m 6).toNatClampNeg))) 3 4 from by unfold stepM; rw [if_neg c, if_pos c1]; unfold stepB; rw [if_neg d], va_up_self]
      · rw [if_neg c1, stepM_4 c c1]
        by_cases c4 : g m 3 = 4
        · rw [if_pos c4, if_pos c4, Int32.add_assoc, Int32.add_assoc, Int32.add_comm (lostM w hs g m) 1]
        · rw [if_neg c4, if_neg c4]
theorem cnt_itG {w : Int32} {hs : Nat → Int32} {n : Nat} {g : Nat → Rc} : ∀ k, cnt (itG w hs n g k) 4 n = cnt g 4 n + lostS w hs n g k
  | 0 => (Int32.add_zero _).symm
  | k + 1 => by
    show cnt (gup (stepM w hs) (itG w hs n g k) n) 4 n = _
    rw [cnt_step n (Nat.le_refl n), cnt_itG k, lostS, Int32.add_assoc]
theorem min_ans {w : Int32} {hs : Nat → Int32} {n N : Nat} {g : Nat → Rc} : cnt (gup (minR w hs N) g n) 4 n - cnt g 4 n = lostS w hs n g N := by
  rw [minG, cnt_itG, Int32.add_comm, Int32.add_sub_cancel]
/-! ===== days ===== -/
theorem keepK_eq {a b : Rc} (h : eqv a b) : keepK a = keepK b := by
  unfold keepK; rw [h.kq, h.1 1 (by decide)]
theorem dayR_eqv {dy : Int32} {a b : Rc} (h : eqv a b) : eqv (dayR dy a) (dayR dy b) := by
  unfold dayR
  rw [keepK_eq h, ← h.1 3 (by decide)]
  by_cases c : a 3 = 2
  · rw [if_pos c, if_pos c, h.2 c]
    by_cases d : dy - b 7 < keepK b
    · rw [if_pos d, if_pos d]; exact h
    · rw [if_neg d, if_neg d]; exact eqv_st h (by decide)
  · rw [if_neg c, if_neg c]; exact h
theorem dayC_eq {dy : Int32} {g g' : Nat → Rc} : ∀ {n : Nat}, (∀ i, i < n → eqv (g i) (g' i)) → dayC dy g n = dayC dy g' n
  | 0, _ => rfl
  | n + 1, h => by
    have e := h n (Nat.lt_succ_self n)
    rw [dayC, dayC, keepK_eq e, ← e.1 3 (by decide), dayC_eq (fun i hi => h i (by omega))]
    by_cases c : g n 3 = 2
    · rw [if_pos c, if_pos c, e.2 c]
    · rw [if_neg c, if_neg c]
/-! ===== baking: the mass in the oven then ===== -/
theorem masm_up {g : Nat → Rc} {j : Nat} {o : Int32} {rc : Rc} : ∀ m, m ≤ j → masm (va_up g j rc) o m = masm g o m
  | 0, _ => rfl
  | m + 1, h => by rw [masm, masm, masm_up m (by omega), va_up_ne _ _ (by omega)]
theorem masm_bake {g : Nat → Rc} {j : Nat} {o : Int32} (h0 : g j 3 = 0) : ∀ m, j < m → masm (va_up g j (va_up (va_up (g j) 3 1) 6 o)) o m = masm g o m + g j 1
  | 0, h => absurd h (Nat.not_lt_zero j)
  | m + 1, h => by
    rw [masm, masm]
    by_cases e : m = j
    · subst e
      rw [va_up_self, masm_up m (Nat.le_refl m), if_neg (show ¬ g m 3 = 1 by rw [h0]; decide), if_pos (by rw [va_up_ne _ _ (by decide), va_up_self]), if_pos (by rw [va_up_self]), va_up_ne _ _ (by decide), va_up_ne _ _ (by decide)]
    · rw [va_up_ne _ _ e, masm_bake h0 m (by omega)]
      by_cases c : g m 3 = 1
      · rw [if_pos c, if_pos c]
        by_cases d : g m 6 = o
        · rw [if_pos d, if_pos d, Int32.add_assoc, Int32.add_assoc, Int32.add_comm (g j 1)]
        · rw [if_neg d, if_neg d]
      · rw [if_neg c, if_neg c]
/-! ===== what holds between two calls ===== -/
def Inv (n : Nat) (g g' : Nat → Rc) (dy : Int32) (t : Tr) : Prop :=
  n ≤ 40 ∧ (∀ i, i < n → eqv (g i) (g' i)) ∧ (∀ i, i < n → kd (g i) < 7) ∧ (∀ i, i < n → g i 0 = nI (kd (g i))) ∧ (∀ i, i < n → ∃ o, o < 3 ∧ g i 6 = nI o) ∧ (∀ i, n ≤ i → ∀ f, g' i f = 0) ∧ (∃ d, d ≤ 10000 ∧ dy = nI d) ∧ t.1 ≤ 10
section INV
variable {n : Nat} {g g' : Nat → Rc} {dy : Int32} {t : Tr}
theorem Inv.kq' (h : Inv n g g' dy t) : ∀ i, i < n → kd (g' i) < 7 := fun i hi => by rw [← (h.2.1 i hi).kq]; exact h.2.2.1 i hi
theorem Inv.k0' (h : Inv n g g' dy t) : ∀ i, i < n → g' i 0 = nI (kd (g' i)) := fun i hi => by rw [← (h.2.1 i hi).kq, ← (h.2.1 i hi).1 0 (by decide)]; exact h.2.2.2.1 i hi
theorem Inv.ov' (h : Inv n g g' dy t) : ∀ i, i < n → ∃ o, o < 3 ∧ g' i 6 = nI o := fun i hi => by rw [← (h.2.1 i hi).1 6 (by decide)]; exact h.2.2.2.2.1 i hi
/-- one batch changes on both sides -/
theorem Inv.up {j : Nat} {a b : Rc} (h : Inv n g g' dy t) (hj : j < n) (e : eqv a b) (h0 : a 0 = g j 0) (h6 : ∃ o, o < 3 ∧ a 6 = nI o) : Inv n (va_up g j a) (va_up g' j b) dy t := by
  have hk : kd a = kd (g j) := by unfold kd; rw [h0]
  refine ⟨h.1, fun i hi => ?_, fun i hi => ?_, fun i hi => ?_, fun i hi => ?_, fun i hi f => ?_, h.2.2.2.2.2.2.1, h.2.2.2.2.2.2.2⟩ <;> by_cases ij : i = j
  · subst ij; rw [va_up_self, va_up_self]; exact e
  · rw [va_up_ne _ _ ij, va_up_ne _ _ ij]; exact h.2.1 i hi
  · subst ij; rw [va_up_self, hk]; exact h.2.2.1 i hi
  · rw [va_up_ne _ _ ij]; exact h.2.2.1 i hi
  · subst ij; rw [va_up_self, hk, h0]; exact h.2.2.2.1 i hi
  · rw [va_up_ne _ _ ij]; exact h.2.2.2.1 i hi
  · subst ij; rw [va_up_self]; exact h6
  · rw [va_up_ne _ _ ij]; exact h.2.2.2.2.1 i hi
  · omega
  · rw [va_up_ne _ _ ij]; exact h.2.2.2.2.2.1 i hi f
theorem Inv.tr {t2 : Tr} (h : Inv n g g' dy t) (h2 : t2.1 ≤ 10) : Inv n g g' dy t2 := ⟨h.1, h.2.1, h.2.2.1, h.2.2.2.1, h.2.2.2.2.1, h.2.2.2.2.2.1, h.2.2.2.2.2.2.1, h2⟩
theorem Inv.minute {w : Int32} {hs : Nat → Int32} {N : Nat} (h : Inv n g g' dy t) : Inv n (itG w hs n g N) (itG w hs n g' N) dy t := by
  refine ⟨h.1, itG_eqv h.2.1 N, fun i hi => ?_, fun i hi => ?_, fun i hi => ?_, fun i hi f => ?_, h.2.2.2.2.2.2.1, h.2.2.2.2.2.2.2⟩
  · rw [itG_kd]; exact h.2.2.1 i hi
  · rw [itG_kd, itG_f (by decide) (by decide) (by decide)]; exact h.2.2.2.1 i hi
  · rw [itG_f (by decide) (by decide) (by decide)]; exact h.2.2.2.2.1 i hi
  · rw [itG_ge hi]; exact h.2.2.2.2.2.1 i hi f
theorem Inv.day (h : Inv n g g' dy t) (hd : dy < 10000) : Inv n (gup (dayR dy) g n) (gup (dayR dy) g' n) (dy + 1) t := by
  refine ⟨h.1, fun i hi => ?_, fun i hi => ?_, fun i hi => ?_, fun i hi => ?_, fun i hi f => ?_, ?_, h.2.2.2.2.2.2.2⟩
  · rw [gup_lt hi, gup_lt hi]; exact dayR_eqv (h.2.1 i hi)
  · rw [gup_lt hi, dayR_kd]; exact h.2.2.1 i hi
  · rw [gup_lt hi, dayR_kd, dayR_f (by decide)]; exact h.2.2.2.1 i hi
  · rw [gup_lt hi, dayR_f (by decide)]; exact h.2.2.2.2.1 i hi
  · rw [gup_ge hi]; exact h.2.2.2.2.2.1 i hi f
  · obtain ⟨d, h1, rfl⟩ := h.2.2.2.2.2.2.1
    refine ⟨d + 1, ?_, nI_1 d⟩
    have h2 : nI d < nI 10000 := hd
    rw [nI_ltI (by omega) (by decide)] at h2
    omega
theorem Inv.batch {kk : Nat} {m : Int32} (h : Inv n g g' dy t) (hn : n < 40) (hk : kk < 7) : Inv (n + 1) (va_up g n (rec0 (nI kk) m)) (va_up g' n (va_up (va_up (va_up (g' n) 0 (nI kk)) 1 m) 3 0)) dy t := by
  have z := h.2.2.2.2.2.1 n (Nat.le_refl n)
  have hkd : kd (rec0 (nI kk) m) = kk := nI_clamp (n := kk) (by omega)
  refine ⟨hn, fun i hi => ?_, fun i hi => ?_, fun i hi => ?_, fun i hi => ?_, fun i hi f => ?_, h.2.2.2.2.2.2.1, h.2.2.2.2.2.2.2⟩
  · by_cases ij : i = n
    · subst ij
      rw [va_up_self, va_up_self]
      refine ⟨fun f hf => ?_, fun h2 => absurd h2 (by show ¬ (0 : Int32) = 2; decide)⟩
      by_cases f3 : f = 3
      · subst f3; rw [va_up_self]; rfl
      · rw [va_up_ne _ _ f3]
        by_cases f1 : f = 1
        · subst f1; rw [va_up_self]; rfl
        · rw [va_up_ne _ _ f1]
          by_cases f0 : f = 0
          · subst f0; rw [va_up_self]; rfl
          · rw [va_up_ne _ _ f0, z f]; simp [rec0, f0, f1]
    · rw [va_up_ne _ _ ij, va_up_ne _ _ ij]; exact h.2.1 i (by omega)
  · by_cases ij : i = n
    · subst ij; rw [va_up_self, hkd]; exact hk
    · rw [va_up_ne _ _ ij]; exact h.2.2.1 i (by omega)
  · by_cases ij : i = n
    · subst ij; rw [va_up_self, hkd]; rfl
    · rw [va_up_ne _ _ ij]; exact h.2.2.2.1 i (by omega)
  · by_cases ij : i = n
    · subst ij; rw [va_up_self]; exact ⟨0, by decide, rfl⟩
    · rw [va_up_ne _ _ ij]; exact h.2.2.2.2.1 i (by omega)
  · rw [va_up_ne _ _ (by omega)]; exact h.2.2.2.2.2.1 i (by omega) f
end INV
