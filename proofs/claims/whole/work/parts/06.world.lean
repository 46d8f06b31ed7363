/-! ===== what a batch answers, by its kind k and its mass m ===== -/
def riseV (k : Nat) (w : Int32) : Int32 := match k with
  | 2 => w / 4 / 2 + 1
  | 3 => w / 4 / 2 + 1
  | 4 => w / 4 / 2 + 1 - 1
  | 6 => w / 4 + w / 10
  | _ => w / 4
def riseT (k : Nat) : List Int32 := match k with
  | 2 => [2, 1]
  | 3 => [2, 1]
  | 4 => [3, 2, 1]
  | 6 => [4, 1]
  | _ => [1]
def needV (k : Nat) (m : Int32) : Int32 := match k with
  | 1 => 100 + m / 10 + 50
  | 2 => 100 + m / 10 + 50
  | 3 => 100 + m / 10 + 50 + riseV 3 20
  | 4 => 100 + m / 10 + 50 + riseV 4 20
  | _ => 100 + m / 10
def needT (k : Nat) : List Int32 := match k with
  | 1 => [12, 11]
  | 2 => [12, 11]
  | 3 => [13, 12, 11, 2, 1]
  | 4 => [13, 12, 11, 3, 2, 1]
  | _ => [11]
def brownV (k : Nat) (h : Int32) : Int32 := match k with
  | 4 => (h / 50 + 2) / 3
  | 5 => h / 50 + 1
  | 6 => h / 50 + 1
  | _ => h / 50
def brownT (k : Nat) : List Int32 := match k with
  | 4 => [22, 21]
  | 5 => [23, 21]
  | 6 => [23, 21]
  | _ => [21]
def priceV (k : Nat) (m : Int32) : Int32 := match k with
  | 3 => 10 + m / 5 + 40
  | 4 => 10 + m / 5 + 40 + needV 4 m
  | 6 => 2 * (10 + m / 5)
  | _ => 10 + m / 5
def priceT (k : Nat) : List Int32 := match k with
  | 3 => [32, 31]
  | 4 => [33, 32, 31, 13, 12, 11, 3, 2, 1]
  | 6 => [34, 31]
  | _ => [31]
def keepsV (k : Nat) (m : Int32) : Int32 := match k with
  | 4 => priceV 4 m / 50 + 2
  | _ => 1 + needV k m / 100
def keepsT (k : Nat) : List Int32 := match k with
  | 4 => [42, 33, 32, 31, 13, 12, 11, 3, 2, 1]
  | 3 => [41, 13, 12, 11, 2, 1]
  | _ => [41, 12, 11]
def glazeV (k : Nat) (m : Int32) : Int32 := match k with
  | 6 => brownV 6 200 + 20
  | _ => priceV k m / 10 + 5
def glazeT (k : Nat) : List Int32 := match k with
  | 6 => [52, 23, 21]
  | _ => [51, 31]
/-! ===== the trace ===== -/
abbrev Tr : Type := Nat × (Nat → Int32)
def tw : List Int32 → Tr → Tr
  | [], t => t
  | x :: xs, t => tw xs (t.1 + 1, upd t.2 t.1 x)
def te (r : Bool) (xs : List Int32) (t : Tr) : Tr := match r with
  | true => tw xs t
  | false => t
theorem tw_app : ∀ (xs ys : List Int32) (t : Tr), tw ys (tw xs t) = tw (xs ++ ys) t
  | [], _, _ => rfl
  | _ :: xs, ys, t => tw_app xs ys _
theorem te_te (r : Bool) (xs ys : List Int32) (t : Tr) : te r ys (te r xs t) = te r (xs ++ ys) t := by
  cases r
  · rfl
  · exact tw_app xs ys t
theorem tw_len : ∀ (xs : List Int32) (t : Tr), (tw xs t).1 = t.1 + xs.length
  | [], _ => rfl
  | x :: xs, t => by rw [tw, tw_len xs]; simp; omega
/-- the trace has room for n more, if it is kept at all -/
def tR (r : Bool) (n : Nat) (t : Tr) : Prop := r = true → t.1 + n ≤ 10
theorem tR.le {r : Bool} {n k : Nat} {t : Tr} (h : tR r n t) (hk : k ≤ n) : tR r k t := fun q => Nat.le_trans (by omega) (h q)
theorem tR.step {r : Bool} {n k : Nat} {t : Tr} {xs : List Int32} (h : tR r n t) (hk : xs.length + k ≤ n) : tR r k (te r xs t) := fun q => by
  subst q
  have := h rfl
  show (tw xs t).1 + k ≤ 10
  rw [tw_len]; omega
theorem tR.f {n : Nat} {t : Tr} : tR false n t := fun q => by cases q
def bI (b : Bool) : Int32 := match b with
  | true => 1
  | false => 0
/-! ===== the cells ===== -/
abbrev Rc : Type := Nat → Int32
/-- a batch's kind -/
def kd (r : Rc) : Nat := (r 0).toNatClampNeg
def dfs (T : Nat) (r : Rc) : List Value := [.int (r 0), .int (r 1), .ref T, .int (r 3), .int (r 4), .int (r 5), .int (r 6), .int (r 7)]
def dE (T : Nat) (r : Rc) : va_E := .inr (kd r, dfs T r)
/-- all of the world but the trace: the reference's ten cells q, the addresses A, made, warmth, days, till, the batches' array, the heats, the pool -/
abbrev KT : Type := (Nat → Nat × va_E) × (Nat → Nat) × Int32 × Int32 × Int32 × Int32 × (Nat → Option Nat) × (Nat → Int32) × va_W
abbrev kq (K : KT) : Nat → Nat × va_E := K.1
abbrev kA (K : KT) : Nat → Nat := K.2.1
abbrev kP (K : KT) : va_W := K.2.2.2.2.2.2.2.2
/-- the world: the reference's ten cells, the room, its arrays of batches and of heats, the trace and its array, the batches -/
def wT (X : Cx) (K : KT) (r : Bool) (t : Tr) : va_W :=
  K.1 0 :: K.1 1 :: K.1 2 :: K.1 3 :: K.1 4 :: K.1 5 :: K.1 6 :: K.1 7 :: K.1 8 :: K.1 9 ::
  (K.2.1 0, .inr (8, [.ref (K.2.1 1), .ref (K.2.1 2), .ref (K.2.1 3), .int K.2.2.1, .int K.2.2.2.1, .int K.2.2.2.2.1, .int K.2.2.2.2.2.1])) ::
  (K.2.1 1, .inl (X.2.2.1, 40, .inr (.inr (.inr (.inr K.2.2.2.2.2.2.1))))) ::
  (K.2.1 2, .inl (X.2.1, 3, .inl K.2.2.2.2.2.2.2.1)) ::
  (K.2.1 3, .inr (7, [.ref (K.2.1 4), .int (nI t.1), .int (bI r)])) ::
  (K.2.1 4, .inl (X.2.1, 10, .inl t.2)) :: K.2.2.2.2.2.2.2.2
def kset (K : KT) (i : Nat) (x : Nat × va_E) : KT := (K.1, K.2.1, K.2.2.1, K.2.2.2.1, K.2.2.2.2.1, K.2.2.2.2.2.1, K.2.2.2.2.2.2.1, K.2.2.2.2.2.2.2.1, K.2.2.2.2.2.2.2.2.set i x)
theorem wT_at {X : Cx} {K : KT} {r : Bool} {t : Tr} {i : Nat} {x : Nat × va_E} (h : (kP K)[i]? = some x) : (wT X K r t)[i + 15]? = some x := h
theorem wT_set {X : Cx} {K : KT} {r : Bool} {t : Tr} {i : Nat} {x : Nat × va_E} : (wT X K r t).set (i + 15) x = wT X (kset K i x) r t := rfl
theorem wT_T {X : Cx} {K : KT} {r : Bool} {t : Tr} {u : Tr} {n : Int32} (h : n = nI u.1) : (wT X K r t).set 13 (K.2.1 3, .inr (7, [.ref (K.2.1 4), .int n, .int (bI r)])) = wT X K r (u.1, t.2) := by rw [h]; rfl
/-- room: no cells, f frames -/
def rl (f : Nat) : Room := { frames := f, cells := 0, slots := 0, locals := 27 * f }
theorem rl_ok {f f' mL : Nat} (h : f < f') (h2 : mL ≤ 8) : (rl f).frames + 1 ≤ (rl f').frames ∧ 8 + (mL + 11) + (rl f).locals ≤ (rl f').locals := by
  show f + 1 ≤ f' ∧ 8 + (mL + 11) + 27 * f ≤ 27 * f'
  omega
theorem rl_c {f f' : Nat} : 0 + (rl f).cells ≤ (rl f').cells ∧ 0 + (rl f).slots ≤ (rl f').slots := ⟨Nat.le_refl 0, Nat.le_refl 0⟩
/-- a kind's own class, its fields among the words -/
theorem kd_cls {r : Rc} (h : kd r < 7) : classes[kd r]? = some (RD (kd r), TD, 8) ∧ ∀ w ∈ u_ws (RD (kd r)) TD 8, w ∈ G := by
  revert h
  generalize kd r = k
  intro h
  match k, h with
  | 0, _ => exact ⟨rfl, iG_0⟩
  | 1, _ => exact ⟨rfl, iG_1⟩
  | 2, _ => exact ⟨rfl, iG_2⟩
  | 3, _ => exact ⟨rfl, iG_3⟩
  | 4, _ => exact ⟨rfl, iG_4⟩
  | 5, _ => exact ⟨rfl, iG_5⟩
  | 6, _ => exact ⟨rfl, iG_6⟩
