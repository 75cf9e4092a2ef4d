def LX : List mL := [.inl (11, [4, 26, 28, 30, 44, 55, 57, 74, 79, 0, 0]), .inl (10, [5, 6, 7, 8, 0, 0, 0, 9]), .inr (0, 4, []), .inr (0, 4, []), .inr (0, 4, []), .inr (0, 4, []), .inr (3, 8, [7, 9, 11, 13, 15, 17, 19, 21]), .inl (5, [11, 0]), .inr (0, 800, []), .inl (5, [13, 0]), .inr (0, 800, []), .inl (5, [15, 0]), .inr (0, 800, []), .inl (5, [17, 0]), .inr (0, 800, []), .inl (5, [19, 0]), .inr (0, 800, []), .inl (5, [21, 0]), .inr (0, 800, []), .inl (5, [23, 0]), .inr (0, 800, []), .inl (5, [25, 0]), .inr (0, 800, []), .inl (5, [27, 0]), .inr (0, 400, []), .inl (5, [29, 0]), .inr (0, 400, []), .inl (4, [31, 0, 0, 33, 0, 0, 40, 42]), .inl (5, [32, 0]), .inr (0, 800, []), .inl (8, [34, 36, 38]), .inl (5, [35, 0]), .inr (0, 401, []), .inl (5, [37, 0]), .inr (0, 401, []), .inl (5, [39, 0]), .inr (0, 401, []), .inl (5, [41, 0]), .inr (0, 4, []), .inl (5, [43, 0]), .inr (0, 4, []), .inl (3, [0, 0, 0, 0, 0, 0, 0, 1, 1, 1, 45, 46, 47, 48, 49, 50, 51, 52]), .inl (1, [0, 0, 0, 0, 0]), .inr (0, 192, []), .inr (0, 192, []), .inr (0, 192, []), .inr (0, 192, []), .inr (0, 192, []), .inr (0, 192, []), .inl (2, [53, 54, 0, 0, 0]), .inr (0, 192, []), .inr (0, 192, []), .inl (6, [56, 0, 0]), .inr (0, 5, []), .inl (9, [0, 0, 0, 58, 60, 62, 73]), .inl (6, [59, 0, 0]), .inr (0, 5, []), .inl (5, [61, 0]), .inr (0, 4, []), .inl (3, [0, 0, 0, 0, 0, 0, 0, 1, 1, 1, 63, 64, 65, 66, 67, 68, 69, 70]), .inl (1, [0, 0, 0, 0, 0]), .inr (0, 192, []), .inr (0, 192, []), .inr (0, 192, []), .inr (0, 192, []), .inr (0, 192, []), .inr (0, 192, []), .inl (2, [71, 72, 0, 0, 0]), .inr (0, 192, []), .inr (0, 192, []), .inr (0, 3, []), .inl (0, [75, 76, 77, 78, 0]), .inr (0, 6, []), .inr (0, 6, []), .inr (0, 6, []), .inr (0, 1681, []), .inl (7, [80, 81, 82, 83, 0, 0]), .inr (0, 200, []), .inr (0, 200, []), .inr (0, 200, []), .inr (1, 200, [])]
def LAY : List mL := [.inl (11, [4, 26, 28, 30, 44, 55, 57, 74, 79, 0, 0]), .inl (10, [5, 6, 7, 8, 0, 0, 0, 9]), .inr (0, 4, []), .inr (0, 4, []), .inr (0, 4, []), .inr (0, 4, []), .inr (3, 8, [7, 9, 11, 13, 15, 17, 19, 21]), .inl (5, [11, 0]), .inr (0, 800, []), .inl (5, [13, 0]), .inr (0, 800, []), .inl (5, [15, 0]), .inr (0, 800, []), .inl (5, [17, 0]), .inr (0, 800, []), .inl (5, [19, 0]), .inr (0, 800, []), .inl (5, [21, 0]), .inr (0, 800, []), .inl (5, [23, 0]), .inr (0, 800, []), .inl (5, [25, 0]), .inr (0, 800, []), .inl (5, [27, 0]), .inr (0, 400, []), .inl (5, [29, 0]), .inr (0, 400, []), .inl (4, [31, 0, 0, 33, 0, 0, 40, 42]), .inl (5, [32, 0]), .inr (0, 800, []), .inl (8, [34, 36, 38]), .inl (5, [35, 0]), .inr (0, 401, []), .inl (5, [37, 0]), .inr (0, 401, []), .inl (5, [39, 0]), .inr (0, 401, []), .inl (5, [41, 0]), .inr (0, 4, []), .inl (5, [43, 0]), .inr (0, 4, []), .inl (3, [0, 0, 0, 0, 0, 0, 0, 1, 1, 1, 45, 46, 47, 48, 49, 50, 51, 52]), .inl (1, [0, 0, 0, 0, 0]), .inr (0, 192, []), .inr (0, 192, []), .inr (0, 192, []), .inr (0, 192, []), .inr (0, 192, []), .inr (0, 192, []), .inl (2, [53, 54, 0, 0, 0]), .inr (0, 192, []), .inr (0, 192, []), .inl (6, [56, 0, 0]), .inr (0, 5, []), .inl (9, [0, 0, 0, 58, 60, 62, 73]), .inl (6, [59, 0, 0]), .inr (0, 5, []), .inl (5, [61, 0]), .inr (0, 4, []), .inl (3, [0, 0, 0, 0, 0, 0, 0, 1, 1, 1, 63, 64, 65, 66, 67, 68, 69, 70]), .inl (1, [0, 0, 0, 0, 0]), .inr (0, 192, []), .inr (0, 192, []), .inr (0, 192, []), .inr (0, 192, []), .inr (0, 192, []), .inr (0, 192, []), .inl (2, [71, 72, 0, 0, 0]), .inr (0, 192, []), .inr (0, 192, []), .inr (0, 3, []), .inl (0, [75, 76, 77, 78, 0]), .inr (0, 6, []), .inr (0, 6, []), .inr (0, 6, []), .inr (0, 1681, []), .inl (7, [80, 81, 82, 83, 0, 0]), .inr (0, 200, []), .inr (0, 200, []), .inr (0, 200, []), .inr (1, 200, []), .inl (12, [0, 85, 86, 87, 88, 0, 0, 0, 0, 0, 0, 0, 0, 89, 90, 91, 92, 93, 94, 95, 96, 97, 98, 99, 100, 101, 102, 103, 104, 105, 0, 106, 107, 108, 109, 0, 0, 0, 0, 0, 110, 111, 112, 113, 114, 115, 116, 117, 118, 119, 120, 0, 121, 0, 0, 0, 0, 0, 0, 0, 0, 122, 0, 123, 124, 125, 126, 0, 127, 128, 129, 130, 131, 0]), .inr (0, 4, []), .inr (0, 4, []), .inr (0, 4, []), .inr (0, 4, []), .inr (0, 384, []), .inr (0, 192, []), .inr (0, 384, []), .inr (1, 384, []), .inr (1, 384, []), .inr (0, 2, []), .inr (0, 2, []), .inr (1, 2, []), .inr (0, 2, []), .inr (0, 2, []), .inr (0, 2, []), .inr (0, 2, []), .inr (2, 2, []), .inr (2, 2, []), .inr (2, 2, []), .inr (0, 192, []), .inr (0, 192, []), .inr (0, 193, []), .inr (0, 193, []), .inr (1, 193, []), .inr (0, 400, []), .inr (0, 83, []), .inr (0, 3600, []), .inr (0, 3600, []), .inr (0, 3600, []), .inr (0, 9, []), .inr (0, 3600, []), .inr (0, 3600, []), .inr (0, 3600, []), .inr (0, 3600, []), .inr (0, 3600, []), .inr (0, 3600, []), .inr (0, 4, []), .inr (0, 4, []), .inr (0, 6, []), .inr (0, 6, []), .inr (0, 6, []), .inr (0, 1681, []), .inr (0, 200, []), .inr (0, 200, []), .inr (1, 200, []), .inr (0, 200, []), .inr (0, 400, [])]
def bXa : List (Nat × (Int × Int)) := [(50, (0, 191)), (68, (0, 191)), (80, (0, 1)), (89, (0, 1)), (90, (0, 1)), (93, (0, 1)), (101, (0, 192)), (102, (0, 191)), (105, (0, 1)), (106, (0, 255)), (109, (0, 99999)), (111, (0, 400)), (112, (0, 400)), (113, (0, 400)), (114, (0, 400)), (118, (-1000, 399)), (126, (0, 1))]
def bXf : List ((Nat × Nat) × (Int × Int)) := [((1, 5), (0, 1)), ((7, 1), (0, 800)), ((9, 1), (0, 800)), ((11, 1), (0, 800)), ((13, 1), (0, 800)), ((15, 1), (0, 800)), ((17, 1), (0, 800)), ((19, 1), (0, 800)), ((21, 1), (0, 800)), ((23, 1), (0, 400)), ((25, 1), (0, 400)), ((28, 1), (0, 800)), ((31, 1), (0, 401)), ((33, 1), (0, 401)), ((35, 1), (0, 401)), ((37, 1), (0, 4)), ((39, 1), (0, 4)), ((41, 0), (0, 16)), ((41, 1), (0, 12)), ((41, 2), (0, 192)), ((41, 3), (0, 3)), ((42, 2), (0, 1)), ((49, 2), (0, 192)), ((49, 4), (0, 1)), ((57, 1), (0, 4)), ((59, 0), (0, 16)), ((59, 1), (0, 12)), ((59, 2), (0, 192)), ((59, 3), (0, 3)), ((60, 2), (0, 1)), ((67, 2), (0, 192)), ((67, 4), (0, 1)), ((71, 4), (0, 6)), ((76, 4), (0, 200)), ((81, 5), (0, 1)), ((81, 6), (0, 16)), ((81, 7), (0, 12)), ((81, 8), (0, 3)), ((81, 11), (0, 1)), ((81, 12), (2, 9)), ((81, 30), (0, 192)), ((81, 35), (0, 400)), ((81, 36), (0, 400)), ((81, 37), (0, 400)), ((81, 38), (0, 4)), ((81, 39), (-1, 99999)), ((81, 51), (0, 400)), ((81, 53), (0, 4)), ((81, 58), (0, 1000)), ((81, 59), (0, 1)), ((81, 62), (0, 6)), ((81, 67), (0, 200)), ((81, 73), (0, 400)), ((107, 82), (32, 32))]
def gX : List Nat := [0, 1, 1, 1, 1, 1, 1, 2, 2, 2, 2, 2, 2, 2, 2, 2, 2, 2, 2, 2, 2, 2, 2, 3, 3, 4, 4, 5, 5, 5, 5, 5, 5, 5, 5, 5, 5, 5, 5, 5, 5, 6, 6, 6, 6, 6, 6, 6, 6, 6, 6, 6, 7, 7, 8, 8, 8, 8, 8, 8, 8, 8, 8, 8, 8, 8, 8, 8, 8, 8, 8, 9, 9, 9, 9, 9, 10, 10, 10, 10, 10, 0, 21, 21, 21, 21, 22, 22, 22, 22, 22, 22, 22, 22, 22, 22, 22, 22, 22, 22, 22, 22, 22, 22, 22, 22, 23, 39, 41, 41, 25, 33, 25, 25, 25, 25, 25, 25, 35, 38, 28, 28, 28, 31, 29, 29, 29, 29, 30]
def gM : List Nat := [20, 0, 0, 0, 0, 22, 22, 22, 22, 22, 21, 21, 21, 0, 0, 0, 0, 0, 0, 0, 0, 0, 0, 0, 0, 0, 0, 0, 0, 0, 32, 0, 0, 0, 0, 23, 24, 24, 24, 24, 0, 0, 0, 0, 0, 0, 0, 0, 0, 0, 0, 34, 0, 35, 36, 36, 26, 26, 37, 27, 27, 0, 28, 0, 0, 0, 0, 29, 0, 0, 0, 0, 0, 30]
/-- the interval that a number keeps to, by place and field (or element), if it has one -/
def bX (k j : Nat) : Option (Int × Int) := match bXa.lookup k with
  | some x => some x
  | none => bXf.lookup (k, j)
/-- which group a number belongs to -/
def grp (k j : Nat) : Nat := bif k == 81 then gM.getD j 0 else gX.getD k 0
/-- each number in its interval -/
def IX (μ : mM) : Prop := ∀ (k j : Nat) (lo hi : Int), bX k j = some (lo, hi) → lo ≤ (μ.1 k j).toInt ∧ (μ.1 k j).toInt ≤ hi
/-- what holds between any two steps: the intervals, and what is not of the groups S is as it was at μ0 -/
def IY (S : Nat → Bool) (μ0 μ : mM) : Prop := IX μ ∧ (∀ k j, S (grp k j) = false → μ.1 k j = μ0.1 k j) ∧ (∀ k j, S (grp k j) = false → μ.2 k j = μ0.2 k j)
theorem IY.rf {S : Nat → Bool} {μ : mM} (h : IX μ) : IY S μ μ := ⟨h, fun _ _ _ => rfl, fun _ _ _ => rfl⟩
theorem IX.si {μ : mM} (h : IX μ) {k j : Nat} {v : Int32} (hv : ∀ lo hi, bX k j = some (lo, hi) → lo ≤ v.toInt ∧ v.toInt ≤ hi) : IX (m_si μ k j v) := by
  intro a i lo hi hb
  show lo ≤ (if a = k ∧ i = j then v else μ.1 a i).toInt ∧ (if a = k ∧ i = j then v else μ.1 a i).toInt ≤ hi
  by_cases q : a = k ∧ i = j
  · rw [if_pos q]
    obtain ⟨rfl, rfl⟩ := q
    exact hv lo hi hb
  · rw [if_neg q]
    exact h a i lo hi hb
theorem IY.si {S : Nat → Bool} {μ0 μ : mM} (h : IY S μ0 μ) {k j : Nat} {v : Int32} (hv : ∀ lo hi, bX k j = some (lo, hi) → lo ≤ v.toInt ∧ v.toInt ≤ hi) (hg : S (grp k j) = true) : IY S μ0 (m_si μ k j v) := by
  refine ⟨h.1.si hv, fun a i q => ?_, h.2.2⟩
  show (if a = k ∧ i = j then v else μ.1 a i) = μ0.1 a i
  by_cases q2 : a = k ∧ i = j
  · obtain ⟨rfl, rfl⟩ := q2
    rw [hg] at q
    cases q
  · rw [if_neg q2]
    exact h.2.1 a i q
theorem IY.si0 {S : Nat → Bool} {μ0 μ ν : mM} (h : IY S μ0 μ) {k j : Nat} {v : Int32} (e : m_si μ k j v = ν) (hn : bX k j = none) (hg : S (grp k j) = true) : IY S μ0 ν := by
  subst e
  exact h.si (fun lo hi hb => by rw [hn] at hb; cases hb) hg
theorem IY.si1 {S : Nat → Bool} {μ0 μ ν : mM} (h : IY S μ0 μ) {k j : Nat} {v : Int32} {lo hi : Int} (e : m_si μ k j v = ν) (hb : bX k j = some (lo, hi)) (h1 : lo ≤ v.toInt ∧ v.toInt ≤ hi) (hg : S (grp k j) = true) : IY S μ0 ν := by
  subst e
  exact h.si (fun lo' hi' hb' => by rw [hb] at hb'; cases hb'; exact h1) hg
theorem IY.sl {S : Nat → Bool} {μ0 μ ν : mM} (h : IY S μ0 μ) {k j : Nat} {v : Int64} (e : m_sl μ k j v = ν) (hg : S (grp k j) = true) : IY S μ0 ν := by
  subst e
  refine ⟨h.1, h.2.1, fun a i q => ?_⟩
  show (if a = k ∧ i = j then v else μ.2 a i) = μ0.2 a i
  by_cases q2 : a = k ∧ i = j
  · obtain ⟨rfl, rfl⟩ := q2
    rw [hg] at q
    cases q
  · rw [if_neg q2]
    exact h.2.2 a i q
theorem m_c1 {x y : Int32} {X Y : Int} (hx : x.toInt = X) (hy : y.toInt = Y) (h : x < y) : X < Y := by
  rw [Int32.lt_iff_toInt_lt] at h
  omega
theorem m_c2 {x y : Int32} {X Y : Int} (hx : x.toInt = X) (hy : y.toInt = Y) (h : ¬ x < y) : Y ≤ X := by
  rw [Int32.lt_iff_toInt_lt] at h
  omega
theorem m_c3 {x y : Int32} {X Y : Int} (hx : x.toInt = X) (hy : y.toInt = Y) (h : x ≤ y) : X ≤ Y := by
  rw [Int32.le_iff_toInt_le] at h
  omega
theorem m_c4 {x y : Int32} {X Y : Int} (hx : x.toInt = X) (hy : y.toInt = Y) (h : ¬ x ≤ y) : Y < X := by
  rw [Int32.le_iff_toInt_le] at h
  omega
theorem m_c5 {x y : Int32} {X Y : Int} (hx : x.toInt = X) (hy : y.toInt = Y) (h : x = y) : X = Y := by
  subst h
  omega
theorem m_c6 {x y : Int32} {X Y : Int} (hx : x.toInt = X) (hy : y.toInt = Y) (h : ¬ x = y) : X ≠ Y := by
  intro e
  exact h (Int32.toInt_inj.mp (by omega))
theorem m_ixI {v : Int32} {n : Nat} {X : Int} (e : v.toInt = X) (h0 : 0 ≤ X) (hn : X < n) : vp_in v n := vp_in_iff.mpr ⟨by omega, by omega⟩
theorem m_bmod {z : Int} (h1 : -2147483648 ≤ z) (h2 : z < 2147483648) : z.bmod (2 ^ 32) = z := by
  rw [Int.bmod_eq_of_le] <;> omega
theorem m_addI {x y z : Int32} {X Y : Int} (e : z = x + y) (hx : x.toInt = X) (hy : y.toInt = Y) (h1 : -2147483648 ≤ X + Y) (h2 : X + Y < 2147483648) : z.toInt = X + Y := by
  rw [e, Int32.toInt_add, hx, hy]
  exact m_bmod h1 h2
theorem m_subI {x y z : Int32} {X Y : Int} (e : z = x - y) (hx : x.toInt = X) (hy : y.toInt = Y) (h1 : -2147483648 ≤ X - Y) (h2 : X - Y < 2147483648) : z.toInt = X - Y := by
  rw [e, Int32.toInt_sub, hx, hy]
  exact m_bmod h1 h2
theorem m_mulI {x y z : Int32} {X Y : Int} (e : z = x * y) (hx : x.toInt = X) (hy : y.toInt = Y) (h1 : -2147483648 ≤ X * Y) (h2 : X * Y < 2147483648) : z.toInt = X * Y := by
  rw [e, Int32.toInt_mul, hx, hy]
  exact m_bmod h1 h2
theorem m_mulB {x y z : Int32} {X Y a c : Int} (e : z = x * y) (hx : x.toInt = X) (hy : y.toInt = Y) (h1 : 0 ≤ X ∧ X ≤ a) (h2 : 0 ≤ Y ∧ Y ≤ c) (h3 : a * c < 2147483648) (_h4 : 0 ≤ a) : 0 ≤ z.toInt ∧ z.toInt ≤ a * c := by
  have h5 : 0 ≤ X * Y := Int.mul_nonneg h1.1 h2.1
  have h6 : X * Y ≤ a * c := Int.mul_le_mul h1.2 h2.2 h2.1 (by omega)
  rw [m_mulI e hx hy (by omega) (by omega)]
  exact ⟨h5, h6⟩
theorem m_divI {x y z : Int32} {X Y : Int} (e : z = x / y) (hx : x.toInt = X) (hy : y.toInt = Y) (h1 : 0 ≤ X) (h2 : 0 < Y) : z.toInt = X / Y := by
  have hb := Int32.toInt_lt x
  rw [e, Int32.toInt_div, hx, hy, Int.tdiv_eq_ediv_of_nonneg h1]
  have h3 : 0 ≤ X / Y := Int.ediv_nonneg h1 (by omega)
  have h4 : X / Y ≤ X := Int.ediv_le_self _ h1
  exact m_bmod (by omega) (by omega)
theorem m_remI {x y z : Int32} {X Y : Int} (e : z = x - x / y * y) (hx : x.toInt = X) (hy : y.toInt = Y) (h1 : 0 ≤ X) (h2 : 0 < Y) : z.toInt = X % Y := by
  have hb := Int32.toInt_lt x
  obtain ⟨w, ew⟩ : ∃ w, w = x / y := ⟨_, rfl⟩
  obtain ⟨v, ev⟩ : ∃ v, v = w * y := ⟨_, rfl⟩
  rw [← ew, ← ev] at e
  have hw := m_divI ew hx hy h1 h2
  have h3 : 0 ≤ X / Y := Int.ediv_nonneg h1 (by omega)
  have h4 : X / Y * Y ≤ X := Int.ediv_mul_le X (by omega)
  have h5 : 0 ≤ X / Y * Y := Int.mul_nonneg h3 (by omega)
  have hv := m_mulI ev hw hy (by omega) (by omega)
  rw [m_subI e hx hv (by omega) (by omega)]
  have h6 := Int.emod_add_mul_ediv X Y
  rw [Int.mul_comm] at h6
  omega
theorem m_divB {x y z : Int32} {X Y : Int} (e : z = x / y) (hx : x.toInt = X) (hy : y.toInt = Y) (h1 : 0 ≤ X) (h2 : 0 < Y) : 0 ≤ z.toInt ∧ z.toInt ≤ X := by
  rw [m_divI e hx hy h1 h2]
  exact ⟨Int.ediv_nonneg h1 (by omega), Int.ediv_le_self _ h1⟩
theorem m_remB {x y z : Int32} {X Y : Int} (e : z = x - x / y * y) (hx : x.toInt = X) (hy : y.toInt = Y) (h1 : 0 ≤ X) (h2 : 0 < Y) : 0 ≤ z.toInt ∧ z.toInt < Y := by
  rw [m_remI e hx hy h1 h2]
  exact ⟨Int.emod_nonneg _ (by omega), Int.emod_lt_of_pos _ h2⟩
theorem m_andN {z x y : Int32} {n : Nat} (e : z = x &&& y) (hy : y.toBitVec.toNat = n) (hn : n < 2147483648) : 0 ≤ z.toInt ∧ z.toInt ≤ n := by
  subst e
  have h1 : (x &&& y).toBitVec.toNat ≤ n := by
    rw [Int32.toBitVec_and, BitVec.toNat_and, ← hy]
    exact Nat.and_le_right
  have h2 : (x &&& y).toInt = (x &&& y).toBitVec.toInt := rfl
  rw [h2, BitVec.toInt_eq_toNat_of_lt (by omega)]
  omega
theorem m_n0 {y : Int32} {Y : Int} (hy : y.toInt = Y) (h : Y ≠ 0) : y ≠ 0 := by
  intro e
  subst e
  exact h (by rw [← hy]; decide)
theorem m_nb {v : Int32} (h : v = 0 ∨ v = 1) : narrow .boolean (.int v) = .int v := by
  rcases h with rfl | rfl <;> decide
theorem m_nbf {v : Int32} (h : v = 0 ∨ v = 1) : fits .boolean (.int v) = true := by
  rcases h with rfl | rfl <;> decide
theorem m_b01 {v : Int32} (h : 0 ≤ v.toInt ∧ v.toInt ≤ 1) : v = 0 ∨ v = 1 := by
  rcases (show v.toInt = 0 ∨ v.toInt = 1 by omega) with q | q
  · exact Or.inl (Int32.toInt_inj.mp q)
  · exact Or.inr (Int32.toInt_inj.mp q)
theorem m_b01t {v : Int32} (h : 0 ≤ v.toInt ∧ v.toInt ≤ 1) : (v = 1 ∧ True) ∨ (v = 0 ∧ True) := by
  rcases m_b01 h with q | q
  · exact Or.inr ⟨q, trivial⟩
  · exact Or.inl ⟨q, trivial⟩
theorem m_rng (x : Int32) : -2147483648 ≤ x.toInt ∧ x.toInt < 2147483648 := ⟨Int32.le_toInt x, Int32.toInt_lt x⟩
theorem m_min {x y z : Int32} {X Y : Int} (e : z = if y < x then y else x) (hx : x.toInt = X) (hy : y.toInt = Y) : z.toInt = min X Y := by
  rw [e]
  by_cases q : y < x
  · rw [if_pos q]
    rw [Int32.lt_iff_toInt_lt] at q
    omega
  · rw [if_neg q]
    rw [Int32.lt_iff_toInt_lt] at q
    omega
theorem m_max {x y z : Int32} {X Y : Int} (e : z = if x < y then y else x) (hx : x.toInt = X) (hy : y.toInt = Y) : z.toInt = max X Y := by
  rw [e]
  by_cases q : x < y
  · rw [if_pos q]
    rw [Int32.lt_iff_toInt_lt] at q
    omega
  · rw [if_neg q]
    rw [Int32.lt_iff_toInt_lt] at q
    omega
section MR4
variable {p : Program} {l : Launch} {e : Env} {R : Room} {s : State} {m : MethodId} {args : Array Value} {below : List Frame} {meth : Method} {c : Code} {H : Heap} {locs : List Loc} {cells slots : Nat} {Q : State → Prop}
variable {cc : ByteArray} {pc : Nat} {ls : Array Slot} {rest : List Value} {D : va_G} {cy : Nat → ClassId} {b : Nat} {lay : List mL} {μ : mM} {A : Nat → Prop}
/-- the memory behind an arraycopy of ints -/
def m_cp (μ : mM) (q0 q1 sp dp n : Nat) : mM := (fun a i => if a = q1 then va_cpy (μ.1 q0) (μ.1 q1) sp dp n i else μ.1 a i, μ.2)
theorem m_copy {own : String} {index : Nat} (hx : p.tables.exec = Jvm.exec) (hb : c.code = cc) (hml : c.maxLocals = ls.size) (hts : ∀ w ∈ TB, w.before args s = true) (hown : s.vm.findClass own = some m.cls) (hlink : Cond.methodLink own index arraycopyName ∈ TB) (hW : m_WA A D cy s b lay μ H locs) (q0 q1 : Nat) {n0 n1 : Nat} {r0 r1 : List Nat} (h0 : lay[q0]? = some (.inr (0, n0, r0))) (h1 : lay[q1]? = some (.inr (0, n1, r1))) {sp dp n : Int32} (g1 : ¬ sp < 0) (g2 : ¬ dp < 0) (g3 : ¬ n < 0) (g4 : sp.toNatClampNeg + n.toNatClampNeg ≤ n0) (g5 : dp.toNatClampNeg + n.toNatClampNeg ≤ n1) (hframes : 1 ≤ R.frames) (hlocals : (rest.map fun v => v.category).sum + (nativeFrameWords "java/lang/System" "arraycopy" 5 + 11) ≤ R.locals) (hdg : decode cc pc = .ok (.invokestatic index, 3))
    (kk : ∀ (H1 : Heap) (locs1 : List Loc), m_WA A D cy s b lay (m_cp μ q0 q1 sp.toNatClampNeg dp.toNatClampNeg n.toNatClampNeg) H1 locs1 → W p l e R s m args below meth c H1 locs1 cells slots Q (F0 m (pc + 3) ls rest)) : W p l e R s m args below meth c H locs cells slots Q (F0 m pc ls (.int n :: .int dp :: .ref (b + q1) :: .int sp :: .ref (b + q0) :: rest)) := by
  have hD : va_D A (m_w cy b lay μ) := ⟨(m_D (cy := cy) (b := b) (lay := lay) (μ := μ)).1, fun k q hk => by
    obtain ⟨x, hx1, rfl⟩ := m_w_get hk
    exact hW.2.2.2 k (List.getElem?_eq_some_iff.mp hx1).1⟩
  refine va_copyi hx hb hml hown (hts _ hlink) (hts _ kS_t) (hts _ kS_s) (hts _ kS_n) hW.1.1 hW.2.1 hD hW.2.2.1 q0 q1 0 0 (ty := .int) (m_w_at h0) (m_w_at h1) rfl rfl rfl g1 g2 g3 g4 g5 (fun i _ => rfl) hframes hlocals hdg fun H1 locs1 hP hD' hS => ?_
  rw [m_w_set (lay' := lay) (μ := μ) (ν := m_cp μ q0 q1 sp.toNatClampNeg dp.toNatClampNeg n.toNatClampNeg) (x' := .inr (0, n1, r1)) h1 (fun _ _ => rfl) h1 (by
    show (Sum.inl _ : va_E) = Sum.inl _
    congr 4
    funext i
    simp [m_cp]) (fun i hi => ⟨fun j' => by simp [m_cp, hi], fun _ => rfl⟩)] at hP
  exact kk H1 locs1 ⟨hW.1, hP, hS, hW.2.2.2⟩
end MR4
theorem IY.cp {S : Nat → Bool} {μ0 μ ν : mM} (h : IY S μ0 μ) {q0 q1 sp dp n : Nat} (e : m_cp μ q0 q1 sp dp n = ν) (hn : ∀ j, bX q1 j = none) (hg : ∀ j, S (grp q1 j) = true) : IY S μ0 ν := by
  subst e
  refine ⟨fun a i lo hi hb => ?_, fun a i q2 => ?_, h.2.2⟩
  · by_cases q : a = q1
    · subst q
      rw [hn i] at hb
      cases hb
    · show lo ≤ (if a = q1 then _ else μ.1 a i).toInt ∧ (if a = q1 then _ else μ.1 a i).toInt ≤ hi
      rw [if_neg q]
      exact h.1 a i lo hi hb
  · by_cases q : a = q1
    · subst q
      rw [hg i] at q2
      cases q2
    · show (if a = q1 then _ else μ.1 a i) = μ0.1 a i
      rw [if_neg q]
      exact h.2.1 a i q2
theorem m_nn {x : Int32} {X : Int} (hx : x.toInt = X) (h : 0 ≤ X) : ¬ x < 0 := by
  rw [Int32.lt_iff_toInt_lt]
  show ¬ x.toInt < 0
  omega
theorem m_cl {x : Int32} {X : Int} {n : Nat} (hx : x.toInt = X) (h : X ≤ n) : (0 : Int32).toNatClampNeg + x.toNatClampNeg ≤ n := by
  show 0 + x.toInt.toNat ≤ n
  omega
theorem m_rows : ∀ n, n < 8 → [7, 9, 11, 13, 15, 17, 19, 21][n]? = some (7 + 2 * n) ∧ LAY[7 + 2 * n]? = some (.inl (5, [7 + 2 * n + 1 + 3, 0])) ∧ LAY[7 + 2 * n + 1]? = some (.inr (0, 800, [])) ∧ bX (7 + 2 * n) 1 = some (0, 800) ∧ (∀ j, bX (7 + 2 * n + 1) j = none) ∧ grp (7 + 2 * n) 1 = 2 ∧ ∀ j, grp (7 + 2 * n + 1) j = 2 := by
  intro n hn
  match n, hn with
  | 0, _ => exact ⟨rfl, rfl, rfl, rfl, fun _ => rfl, rfl, fun _ => rfl⟩
  | 1, _ => exact ⟨rfl, rfl, rfl, rfl, fun _ => rfl, rfl, fun _ => rfl⟩
  | 2, _ => exact ⟨rfl, rfl, rfl, rfl, fun _ => rfl, rfl, fun _ => rfl⟩
  | 3, _ => exact ⟨rfl, rfl, rfl, rfl, fun _ => rfl, rfl, fun _ => rfl⟩
  | 4, _ => exact ⟨rfl, rfl, rfl, rfl, fun _ => rfl, rfl, fun _ => rfl⟩
  | 5, _ => exact ⟨rfl, rfl, rfl, rfl, fun _ => rfl, rfl, fun _ => rfl⟩
  | 6, _ => exact ⟨rfl, rfl, rfl, rfl, fun _ => rfl, rfl, fun _ => rfl⟩
  | 7, _ => exact ⟨rfl, rfl, rfl, rfl, fun _ => rfl, rfl, fun _ => rfl⟩
  | k + 8, h => exact absurd h (by omega)
theorem m_nat {v : Int32} (h : 0 ≤ v.toInt ∧ v.toInt ≤ 7) : v.toNatClampNeg < 8 := by
  show v.toInt.toNat < 8
  omega
theorem m_si_ne {μ : mM} {k k' j j' : Nat} {v : Int32} (h : k ≠ k') : (m_si μ k' j' v).1 k j = μ.1 k j := if_neg (fun q => h q.1)
theorem m_apart {k k1 n c : Nat} {fs r : List Nat} (h1 : LAY[k]? = some (.inl (c, fs))) (h2 : LAY[k1]? = some (.inr (0, n, r))) : k ≠ k1 := by
  intro e
  subst e
  rw [h1] at h2
  cases h2
theorem IY.tr {S S' : Nat → Bool} {μ0 μ ν : mM} (h : IY S μ0 μ) (h2 : IY S' μ ν) (hs : ∀ g, S' g = true → S g = true) : IY S μ0 ν := by
  have key : ∀ g, S g = false → S' g = false := fun g hg => by
    cases h3 : S' g with
    | false => rfl
    | true =>
      rw [hs g h3] at hg
      cases hg
  exact ⟨h2.1, fun k j q => (h2.2.1 k j (key _ q)).trans (h.2.1 k j q), fun k j q => (h2.2.2 k j (key _ q)).trans (h.2.2 k j q)⟩
theorem m_subL {S : Nat → Bool} {L : List Nat} (h : ∀ a ∈ L, S a = true) : ∀ g, L.contains g = true → S g = true := fun g hg => h g (by simpa using hg)
theorem m_andY {z x y : Int32} {Y : Int} (e : z = x &&& y) (hy : y.toInt = Y) (h : 0 ≤ Y) : 0 ≤ z.toInt ∧ z.toInt ≤ Y := by
  have h0 : y.toInt = y.toBitVec.toInt := rfl
  have h3 : 2 * y.toBitVec.toNat < 2 ^ 32 := by
    rw [BitVec.toInt_eq_toNat_cond] at h0
    have := y.toBitVec.isLt
    by_cases q : 2 * y.toBitVec.toNat < 2 ^ 32
    · exact q
    · rw [if_neg q] at h0
      omega
  have h4 : y.toInt = y.toBitVec.toNat := by rw [h0, BitVec.toInt_eq_toNat_of_lt h3]
  have := m_andN (n := y.toBitVec.toNat) e rfl (by omega)
  omega
theorem m_si_row {μ : mM} {k P j : Nat} {v : Int32} (h : P ≠ k) : (m_si μ k j v).1 P = μ.1 P := funext fun _ => if_neg (fun q => h q.1)
theorem m_si_at {μ : mM} {k j : Nat} {v : Int32} : (m_si μ k j v).1 k j = v := if_pos ⟨rfl, rfl⟩
theorem m_si_el {μ : mM} {k j i : Nat} {v : Int32} (h : i ≠ j) : (m_si μ k j v).1 k i = μ.1 k i := if_neg (fun q => h q.2)
theorem m_ck {x : Int32} {n : Nat} (h : 0 ≤ x.toInt ∧ x.toInt < n) : x.toNatClampNeg < n := by
  show x.toInt.toNat < n
  omega
theorem m_ckI {x : Int32} (h : 0 ≤ x.toInt) : (x.toNatClampNeg : Int) = x.toInt := by
  show ((x.toInt.toNat : Nat) : Int) = x.toInt
  omega
-- how many of the first n are not above 0
def m_zn (f : Nat → Int32) : Nat → Nat
  | 0 => 0
  | n + 1 => m_zn f n + (if (f n).toInt ≤ 0 then 1 else 0)
theorem m_zn_le (f : Nat → Int32) : ∀ n, m_zn f n ≤ n
  | 0 => Nat.le_refl 0
  | n + 1 => by
    have := m_zn_le f n
    unfold m_zn
    split <;> omega
theorem m_zn_lt {f : Nat → Int32} {c : Nat} (h : 0 < (f c).toInt) : ∀ n, c < n → m_zn f n + 1 ≤ n
  | 0, hc => absurd hc (by omega)
  | n + 1, hc => by
    unfold m_zn
    by_cases q : c = n
    · subst q
      have := m_zn_le f c
      rw [if_neg (by omega)]
      omega
    · have := m_zn_lt h n (by omega)
      split <;> omega
theorem m_zn_same {f g : Nat → Int32} : ∀ n, (∀ i, i < n → g i = f i) → m_zn g n = m_zn f n
  | 0, _ => rfl
  | n + 1, h => by
    unfold m_zn
    rw [m_zn_same n (fun i hi => h i (by omega)), h n (by omega)]
theorem m_zn_upd {f g : Nat → Int32} {c : Nat} (h0 : (f c).toInt ≤ 0) (h1 : 0 < (g c).toInt) (hne : ∀ i, i ≠ c → g i = f i) : ∀ n, c < n → m_zn g n + 1 = m_zn f n
  | 0, hc => absurd hc (by omega)
  | n + 1, hc => by
    unfold m_zn
    by_cases q : c = n
    · subst q
      rw [m_zn_same c (fun i hi => hne i (by omega)), if_neg (by omega), if_pos h0]
    · have := m_zn_upd h0 h1 hne n (by omega)
      rw [hne n (by omega)]
      omega
theorem m_zn_set {μ : mM} {P j n : Nat} {v : Int32} (hj : j < n) (h0 : (μ.1 P j).toInt ≤ 0) (h1 : 0 < v.toInt) : m_zn ((m_si μ P j v).1 P) n + 1 = m_zn (μ.1 P) n :=
  m_zn_upd (c := j) h0 (by rw [m_si_at]; exact h1) (fun i hi => m_si_el hi) n hj
-- the sum of the first n
def m_sn (f : Nat → Int32) : Nat → Int
  | 0 => 0
  | n + 1 => m_sn f n + (f n).toInt
def m_rg (n : Nat) (f : Nat → Int32) : Prop := ∀ c, c < n → 0 ≤ (f c).toInt ∧ (f c).toInt ≤ 192
theorem m_sn_rg {f : Nat → Int32} : ∀ n, m_rg n f → 0 ≤ m_sn f n ∧ m_sn f n ≤ 192 * n
  | 0, _ => ⟨Int.le_refl 0, Int.le_refl 0⟩
  | n + 1, h => by
    have h1 := m_sn_rg n (fun c hc => h c (by omega))
    have h2 := h n (by omega)
    unfold m_sn
    omega
theorem m_sn_same {f g : Nat → Int32} : ∀ n, (∀ i, i < n → g i = f i) → m_sn g n = m_sn f n
  | 0, _ => rfl
  | n + 1, h => by
    unfold m_sn
    rw [m_sn_same n (fun i hi => h i (by omega)), h n (by omega)]
theorem m_sn_upd {f g : Nat → Int32} {c : Nat} (hne : ∀ i, i ≠ c → g i = f i) : ∀ n, c < n → m_sn g n = m_sn f n - (f c).toInt + (g c).toInt
  | 0, hc => absurd hc (by omega)
  | n + 1, hc => by
    unfold m_sn
    by_cases q : c = n
    · subst q
      rw [m_sn_same c (fun i hi => hne i (by omega))]
      omega
    · have := m_sn_upd hne n (by omega)
      rw [hne n (by omega)]
      omega
theorem m_sn_set {μ : mM} {P j n : Nat} {v : Int32} (hj : j < n) : m_sn ((m_si μ P j v).1 P) n = m_sn (μ.1 P) n - (μ.1 P j).toInt + v.toInt := by
  have := m_sn_upd (f := μ.1 P) (g := (m_si μ P j v).1 P) (c := j) (fun i hi => m_si_el hi) n hj
  rw [m_si_at] at this
  exact this
theorem m_rg_set {μ : mM} {P j n : Nat} {v : Int32} (h : m_rg n (μ.1 P)) (hv : 0 ≤ v.toInt ∧ v.toInt ≤ 192) : m_rg n ((m_si μ P j v).1 P) := by
  intro c hc
  by_cases q : c = j
  · subst q
    rw [m_si_at]
    exact hv
  · rw [m_si_el q]
    exact h c hc
/-- a range grows by one -/
theorem m_rg_snoc {μ : mM} {P n : Nat} {v : Int32} (h : m_rg n (μ.1 P)) (hv : 0 ≤ v.toInt ∧ v.toInt ≤ 192) : m_rg (n + 1) ((m_si μ P n v).1 P) := by
  intro c hc
  by_cases q : c = n
  · subst q
    rw [m_si_at]
    exact hv
  · rw [m_si_el q]
    exact h c (by omega)
