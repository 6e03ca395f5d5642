/-! THE SHAPE of the heap behind the constructors: kinds, lengths, references that stay (printed by a program) -/
def kdL : List Nat := [20, 17, 2, 0, 0, 0, 1, 18, 1, 0, 0, 0, 0, 0, 0, 0, 0, 12, 15, 0, 0, 13, 0, 16, 0, 0, 0, 0, 14, 0, 0, 0, 0, 11, 0, 0, 0, 0, 0, 0, 0, 0, 0, 11, 0, 0, 0, 0, 0, 0, 0, 0, 0, 19, 0, 0, 0, 0, 0, 0, 0, 0, 0, 0, 0, 0, 0, 0, 0, 0, 0, 0, 0, 0, 0, 0, 0, 0, 0, 0, 0, 0, 0, 0, 0, 0, 0, 0, 0, 0, 0, 0, 0, 0, 0, 0, 0, 0, 0, 0, 0, 0, 0, 0, 0, 0, 0, 0, 21, 0, 0, 0, 0, 1, 1, 1, 0, 0, 0, 0, 0, 0, 1, 0, 0, 0, 0, 0, 0, 0, 0, 0, 0, 0, 0, 0, 0, 0, 0, 0, 0, 0, 3, 0, 0, 0, 0, 0, 3, 0, 0, 0, 0, 0, 0, 0, 0, 0, 0, 0, 0, 0, 0, 0, 0, 0, 3, 10, 2, 10, 2, 10, 2, 10, 2, 10, 2, 10, 2, 10, 2, 10, 2, 10, 2, 10, 2, 10, 2, 10, 2, 10, 2, 0, 0, 0, 0, 0, 0, 0, 0, 0, 0, 0, 0, 0, 0, 0, 0, 0, 0, 0, 0, 0, 0, 0, 0, 0, 0, 0, 0, 0, 0, 0, 0, 0, 0, 0, 0, 0, 0, 0, 0, 0, 0, 0, 0, 0, 0, 0, 0, 0, 0, 0, 0, 0, 0, 0, 0, 0, 0, 0, 0, 0, 0, 0, 0, 0, 0, 0, 0, 0, 0, 0, 0, 0, 0, 0, 0, 0, 0, 0, 0, 0, 0, 0, 0, 0, 0, 0, 0]
def lnL : List Nat := [0, 0, 3000, 3001, 3001, 3001, 13, 0, 1510, 1510, 1510, 1510, 500, 500, 300, 1510, 301, 0, 0, 1510, 3000, 0, 3000, 0, 4104, 4104, 4104, 4104, 0, 8192, 8, 200, 500, 0, 3000, 3000, 3000, 3000, 40, 40, 40, 40, 6000, 0, 3000, 3000, 3000, 3000, 40, 40, 40, 40, 6000, 0, 4, 16, 16, 16, 16, 16, 16, 16, 16, 16, 16, 16, 16, 16, 16, 16, 16, 16, 16, 16, 16, 16, 16, 16, 16, 16, 16, 16, 16, 16, 16, 16, 16, 16, 16, 16, 16, 3, 16, 16, 16, 16, 16, 16, 16, 16, 16, 16, 16, 16, 16, 16, 16, 16, 0, 3000, 3000, 3001, 3001, 3001, 14, 1600, 1600, 1600, 1600, 1600, 1600, 1600, 1600, 1600, 1600, 1600, 800, 12000, 12000, 12000, 12000, 12000, 1600, 1600, 12000, 12000, 12000, 12000, 40, 40, 40, 40, 1600, 6001, 60, 70000, 36000, 36000, 36000, 36000, 36000, 9000, 9000, 9000, 196, 16, 8192, 8, 200, 500, 30000, 4000, 4000, 30001, 60, 500, 9000, 0, 3, 0, 4, 0, 4, 0, 6, 0, 2, 0, 4, 0, 5, 0, 3, 0, 4, 0, 5, 0, 6, 0, 3, 0, 2, 16, 16, 16, 4, 4, 4, 4, 4, 4, 4, 4, 4, 4, 4, 4, 4, 4, 4, 4, 4, 16, 16, 16, 16, 16, 16, 16, 16, 16, 16, 16, 16, 16, 16, 16, 16, 16, 16, 16, 16, 16, 16, 16, 16, 16, 16, 16, 16, 16, 16, 16, 16, 16, 16, 16, 16, 16, 16, 16, 16, 16, 16, 16, 16, 16, 16, 16, 16, 16, 16, 16, 16, 16, 16, 16, 16, 16, 16, 16, 3, 3, 3, 3, 3, 3, 3, 3, 3]
def lk : List Int → Nat → Int
  | [], _ => -1
  | x :: _, 0 => x
  | _ :: r, k + 1 => lk r k
def cfL (a : Nat) : List Int := match a with
  | 50 => [51, 57, 67, 68, 71, 73, 78, -1, -1, -1, -1, -1]
  | 51 => [52, -1, 53, 54, 55, -1, 56]
  | 57 => [58, 59, 60, 61, -1, -1, -1, -1, -1, 62, 63, 64, 65, 66, -1, -1, -1]
  | 67 => [51, -1]
  | 68 => [51, 57, -1, -1, -1, -1, 69, -1, -1, -1, -1, 70, -1, -1, -1, -1]
  | 71 => [57, -1, -1, -1, -1, -1, -1, -1, 72]
  | 73 => [-1, -1, 74, 75, 76, 77, -1, -1]
  | 78 => [79, 80, -1, -1, -1, -1, -1, 81, -1, -1, 82, -1, -1, -1]
  | 83 => [-1, 84, 85, 86, 87, -1, 88, 89, 90, 91, -1, -1, -1, 92]
  | 93 => [-1, 94, 95, 96, 97, -1, 98, 99, 100, 101, -1, -1, -1, 102]
  | 158 => [159, -1, 160, -1, -1, 161, 162, 163, 164, -1, -1, -1, -1, -1, -1, -1, -1, -1, 165, 166, 167, -1, 168, 169, -1, -1, 170, 171, -1, -1, -1, -1, 172, -1, 173, 174, -1, 175, 176, -1, -1, -1, 177, 178, 179, 180, -1, 181, -1, -1, 182, 183, -1, -1, -1, -1, 184, 185, 186, 187, -1, -1, 188, 189, 190, 191, 192, -1, -1, 193, -1, -1, 194, 195, -1, -1, -1, 196, 197, 198, -1, 199, 200, -1, -1, -1, -1, 201, 202, 203, 204, -1, 205, 206, 207, -1, -1, -1, -1, -1, -1, -1, 208, -1, -1, 209, -1, 210, -1, 211, 212, -1, 213, 214, -1, -1, 215, 216]
  | _ => []
def KK (i : Nat) : Nat := if i < 331 then (if i < 50 then stK0 i else kdL.getD (i - 50) 0) else stK0 i
def LL (L : Nat) (i : Nat) : Nat := if i < 331 then (if i < 50 then stL0 L i else lnL.getD (i - 50) 0) else stL0 L i
abbrev Mem : Type := Nat → Nat → Int
/-- references that stay lie over the memory; what is not one's own too -/
def ov (xs : Nat → Int32) (m : Mem) : Mem := fun a k => if a < 50 then stM0 xs a k else if lk (cfL a) k = -1 then m a k else lk (cfL a) k
def Hp (L : Nat) (xs : Nat → Int32) (m : Mem) : xH := (331, KK, LL L, ov xs m)
def put (m : Mem) (a k : Nat) (v : Int) : Mem := fun a' k' => if a' = a then (if k' = k then v else m a' k') else m a' k'
def row (m : Mem) (a : Nat) (f : Nat → Int) : Mem := fun a' k' => if a' = a then f k' else m a' k'
section Shape
variable {L : Nat} {xs : Nat → Int32} {m : Mem}
theorem ov_mut {a k : Nat} (h1 : ¬ a < 50) (h2 : lk (cfL a) k = -1) : (Hp L xs m).2.2.2 a k = m a k := by
  show ov xs m a k = m a k
  unfold ov
  rw [if_neg h1, if_pos h2]
theorem ov_con {a k : Nat} {v : Int} (h1 : ¬ a < 50) (h2 : lk (cfL a) k = v) (h3 : v ≠ -1) : (Hp L xs m).2.2.2 a k = v := by
  show ov xs m a k = v
  unfold ov
  rw [if_neg h1, h2, if_neg h3]
theorem hput_H {a k : Nat} {v : Int} (h1 : ¬ a < 50) (h2 : lk (cfL a) k = -1) : hput (Hp L xs m) a k v = Hp L xs (put m a k v) := by
  unfold hput Hp
  congr 3
  funext a' k'
  unfold ov put
  by_cases ha : a' = a
  · subst ha
    by_cases hk : k' = k
    · subst hk
      simp [h1, h2]
    · simp [h1, hk]
  · simp [ha]
theorem hrow_H {a : Nat} {f : Nat → Int} (h1 : ¬ a < 50) (h2 : ∀ k, lk (cfL a) k = -1) : hrow (Hp L xs m) a f = Hp L xs (row m a f) := by
  unfold hrow Hp
  congr 3
  funext a' k'
  unfold ov row
  by_cases ha : a' = a
  · subst ha
    simp [h1, h2]
  · simp [ha]
theorem at_H {a kd n : Nat} {x i : Int} (hx : x = (a : Int)) (h1 : a < 331) (h2 : KK a = kd) (h3 : LL L a = n) (h4 : 0 ≤ i) (h5 : i < n) : xat (Hp L xs m) kd x i = some (a, i.toNat) := by
  subst hx
  unfold xat Hp
  rw [if_pos ⟨by omega, by show (a : Int) < ((331 : Nat) : Int); omega, h2, h4, by show i < ((LL L a : Nat) : Int); rw [h3]; exact h5⟩]
  rfl
theorem ob_H {a c : Nat} {x : Int} (hx : x = (a : Int)) (h1 : a < 331) (h2 : KK a = 10 + c) : xob (Hp L xs m) c x = some a := by
  subst hx
  unfold xob Hp
  rw [if_pos ⟨by omega, by show (a : Int) < ((331 : Nat) : Int); omega, h2⟩]
  rfl
theorem k7_H {a kd n : Nat} {x : Int} {Lo : xL} (hx : x = (a : Int)) (h1 : a < 331) (h2 : KK a = kd) (h3 : LL L a = n) : K7 kd (some (0, [x], (Lo, Hp L xs m))) = some (0, [(n : Int)], (Lo, Hp L xs m)) := by
  subst hx
  have e : (Hp L xs m).1 = 331 := rfl
  have e2 : (Hp L xs m).2.1 (a : Int).toNat = kd := h2
  have e3 : (Hp L xs m).2.2.1 (a : Int).toNat = n := h3
  rw [k7e, if_pos ⟨by omega, by rw [e]; omega, e2⟩, e3]
end Shape
section Shape2
variable {L : Nat} {xs : Nat → Int32} {m : Mem} {k : Nat} {i v : Int} {Lo : xL}
theorem ob_50 : xob (Hp L xs m) 10 50 = some 50 := ob_H (a := 50) rfl (by decide) rfl
theorem g_50_0 : (Hp L xs m).2.2.2 50 0 = 51 := ov_con (by decide) rfl (by decide)
theorem g_50_1 : (Hp L xs m).2.2.2 50 1 = 57 := ov_con (by decide) rfl (by decide)
theorem g_50_2 : (Hp L xs m).2.2.2 50 2 = 67 := ov_con (by decide) rfl (by decide)
theorem g_50_3 : (Hp L xs m).2.2.2 50 3 = 68 := ov_con (by decide) rfl (by decide)
theorem g_50_4 : (Hp L xs m).2.2.2 50 4 = 71 := ov_con (by decide) rfl (by decide)
theorem g_50_5 : (Hp L xs m).2.2.2 50 5 = 73 := ov_con (by decide) rfl (by decide)
theorem g_50_6 : (Hp L xs m).2.2.2 50 6 = 78 := ov_con (by decide) rfl (by decide)
theorem g_50_7 : (Hp L xs m).2.2.2 50 7 = m 50 7 := ov_mut (by decide) rfl
theorem p_50_7 : hput (Hp L xs m) 50 7 v = Hp L xs (put m 50 7 v) := hput_H (by decide) rfl
theorem g_50_8 : (Hp L xs m).2.2.2 50 8 = m 50 8 := ov_mut (by decide) rfl
theorem p_50_8 : hput (Hp L xs m) 50 8 v = Hp L xs (put m 50 8 v) := hput_H (by decide) rfl
theorem g_50_9 : (Hp L xs m).2.2.2 50 9 = m 50 9 := ov_mut (by decide) rfl
theorem p_50_9 : hput (Hp L xs m) 50 9 v = Hp L xs (put m 50 9 v) := hput_H (by decide) rfl
theorem g_50_10 : (Hp L xs m).2.2.2 50 10 = m 50 10 := ov_mut (by decide) rfl
theorem p_50_10 : hput (Hp L xs m) 50 10 v = Hp L xs (put m 50 10 v) := hput_H (by decide) rfl
theorem g_50_11 : (Hp L xs m).2.2.2 50 11 = m 50 11 := ov_mut (by decide) rfl
theorem p_50_11 : hput (Hp L xs m) 50 11 v = Hp L xs (put m 50 11 v) := hput_H (by decide) rfl
theorem ob_51 : xob (Hp L xs m) 7 51 = some 51 := ob_H (a := 51) rfl (by decide) rfl
theorem g_51_0 : (Hp L xs m).2.2.2 51 0 = 52 := ov_con (by decide) rfl (by decide)
theorem g_51_1 : (Hp L xs m).2.2.2 51 1 = m 51 1 := ov_mut (by decide) rfl
theorem p_51_1 : hput (Hp L xs m) 51 1 v = Hp L xs (put m 51 1 v) := hput_H (by decide) rfl
theorem g_51_2 : (Hp L xs m).2.2.2 51 2 = 53 := ov_con (by decide) rfl (by decide)
theorem g_51_3 : (Hp L xs m).2.2.2 51 3 = 54 := ov_con (by decide) rfl (by decide)
theorem g_51_4 : (Hp L xs m).2.2.2 51 4 = 55 := ov_con (by decide) rfl (by decide)
theorem g_51_5 : (Hp L xs m).2.2.2 51 5 = m 51 5 := ov_mut (by decide) rfl
theorem p_51_5 : hput (Hp L xs m) 51 5 v = Hp L xs (put m 51 5 v) := hput_H (by decide) rfl
theorem g_51_6 : (Hp L xs m).2.2.2 51 6 = 56 := ov_con (by decide) rfl (by decide)
theorem ob_57 : xob (Hp L xs m) 8 57 = some 57 := ob_H (a := 57) rfl (by decide) rfl
theorem g_57_0 : (Hp L xs m).2.2.2 57 0 = 58 := ov_con (by decide) rfl (by decide)
theorem g_57_1 : (Hp L xs m).2.2.2 57 1 = 59 := ov_con (by decide) rfl (by decide)
theorem g_57_2 : (Hp L xs m).2.2.2 57 2 = 60 := ov_con (by decide) rfl (by decide)
theorem g_57_3 : (Hp L xs m).2.2.2 57 3 = 61 := ov_con (by decide) rfl (by decide)
theorem g_57_4 : (Hp L xs m).2.2.2 57 4 = m 57 4 := ov_mut (by decide) rfl
theorem p_57_4 : hput (Hp L xs m) 57 4 v = Hp L xs (put m 57 4 v) := hput_H (by decide) rfl
theorem g_57_5 : (Hp L xs m).2.2.2 57 5 = m 57 5 := ov_mut (by decide) rfl
theorem p_57_5 : hput (Hp L xs m) 57 5 v = Hp L xs (put m 57 5 v) := hput_H (by decide) rfl
theorem g_57_6 : (Hp L xs m).2.2.2 57 6 = m 57 6 := ov_mut (by decide) rfl
theorem p_57_6 : hput (Hp L xs m) 57 6 v = Hp L xs (put m 57 6 v) := hput_H (by decide) rfl
theorem g_57_7 : (Hp L xs m).2.2.2 57 7 = m 57 7 := ov_mut (by decide) rfl
theorem p_57_7 : hput (Hp L xs m) 57 7 v = Hp L xs (put m 57 7 v) := hput_H (by decide) rfl
theorem g_57_8 : (Hp L xs m).2.2.2 57 8 = m 57 8 := ov_mut (by decide) rfl
theorem p_57_8 : hput (Hp L xs m) 57 8 v = Hp L xs (put m 57 8 v) := hput_H (by decide) rfl
theorem g_57_9 : (Hp L xs m).2.2.2 57 9 = 62 := ov_con (by decide) rfl (by decide)
theorem g_57_10 : (Hp L xs m).2.2.2 57 10 = 63 := ov_con (by decide) rfl (by decide)
theorem g_57_11 : (Hp L xs m).2.2.2 57 11 = 64 := ov_con (by decide) rfl (by decide)
theorem g_57_12 : (Hp L xs m).2.2.2 57 12 = 65 := ov_con (by decide) rfl (by decide)
theorem g_57_13 : (Hp L xs m).2.2.2 57 13 = 66 := ov_con (by decide) rfl (by decide)
theorem g_57_14 : (Hp L xs m).2.2.2 57 14 = m 57 14 := ov_mut (by decide) rfl
theorem p_57_14 : hput (Hp L xs m) 57 14 v = Hp L xs (put m 57 14 v) := hput_H (by decide) rfl
theorem g_57_15 : (Hp L xs m).2.2.2 57 15 = m 57 15 := ov_mut (by decide) rfl
theorem p_57_15 : hput (Hp L xs m) 57 15 v = Hp L xs (put m 57 15 v) := hput_H (by decide) rfl
theorem g_57_16 : (Hp L xs m).2.2.2 57 16 = m 57 16 := ov_mut (by decide) rfl
theorem p_57_16 : hput (Hp L xs m) 57 16 v = Hp L xs (put m 57 16 v) := hput_H (by decide) rfl
theorem ob_67 : xob (Hp L xs m) 2 67 = some 67 := ob_H (a := 67) rfl (by decide) rfl
theorem g_67_0 : (Hp L xs m).2.2.2 67 0 = 51 := ov_con (by decide) rfl (by decide)
theorem g_67_1 : (Hp L xs m).2.2.2 67 1 = m 67 1 := ov_mut (by decide) rfl
theorem p_67_1 : hput (Hp L xs m) 67 1 v = Hp L xs (put m 67 1 v) := hput_H (by decide) rfl
theorem ob_68 : xob (Hp L xs m) 5 68 = some 68 := ob_H (a := 68) rfl (by decide) rfl
theorem g_68_0 : (Hp L xs m).2.2.2 68 0 = 51 := ov_con (by decide) rfl (by decide)
theorem g_68_1 : (Hp L xs m).2.2.2 68 1 = 57 := ov_con (by decide) rfl (by decide)
theorem g_68_2 : (Hp L xs m).2.2.2 68 2 = m 68 2 := ov_mut (by decide) rfl
theorem p_68_2 : hput (Hp L xs m) 68 2 v = Hp L xs (put m 68 2 v) := hput_H (by decide) rfl
theorem g_68_3 : (Hp L xs m).2.2.2 68 3 = m 68 3 := ov_mut (by decide) rfl
theorem p_68_3 : hput (Hp L xs m) 68 3 v = Hp L xs (put m 68 3 v) := hput_H (by decide) rfl
theorem g_68_4 : (Hp L xs m).2.2.2 68 4 = m 68 4 := ov_mut (by decide) rfl
theorem p_68_4 : hput (Hp L xs m) 68 4 v = Hp L xs (put m 68 4 v) := hput_H (by decide) rfl
theorem g_68_5 : (Hp L xs m).2.2.2 68 5 = m 68 5 := ov_mut (by decide) rfl
theorem p_68_5 : hput (Hp L xs m) 68 5 v = Hp L xs (put m 68 5 v) := hput_H (by decide) rfl
theorem g_68_6 : (Hp L xs m).2.2.2 68 6 = 69 := ov_con (by decide) rfl (by decide)
theorem g_68_7 : (Hp L xs m).2.2.2 68 7 = m 68 7 := ov_mut (by decide) rfl
theorem p_68_7 : hput (Hp L xs m) 68 7 v = Hp L xs (put m 68 7 v) := hput_H (by decide) rfl
theorem g_68_8 : (Hp L xs m).2.2.2 68 8 = m 68 8 := ov_mut (by decide) rfl
theorem p_68_8 : hput (Hp L xs m) 68 8 v = Hp L xs (put m 68 8 v) := hput_H (by decide) rfl
theorem g_68_9 : (Hp L xs m).2.2.2 68 9 = m 68 9 := ov_mut (by decide) rfl
theorem p_68_9 : hput (Hp L xs m) 68 9 v = Hp L xs (put m 68 9 v) := hput_H (by decide) rfl
theorem g_68_10 : (Hp L xs m).2.2.2 68 10 = m 68 10 := ov_mut (by decide) rfl
theorem p_68_10 : hput (Hp L xs m) 68 10 v = Hp L xs (put m 68 10 v) := hput_H (by decide) rfl
theorem g_68_11 : (Hp L xs m).2.2.2 68 11 = 70 := ov_con (by decide) rfl (by decide)
theorem g_68_12 : (Hp L xs m).2.2.2 68 12 = m 68 12 := ov_mut (by decide) rfl
theorem p_68_12 : hput (Hp L xs m) 68 12 v = Hp L xs (put m 68 12 v) := hput_H (by decide) rfl
theorem g_68_13 : (Hp L xs m).2.2.2 68 13 = m 68 13 := ov_mut (by decide) rfl
theorem p_68_13 : hput (Hp L xs m) 68 13 v = Hp L xs (put m 68 13 v) := hput_H (by decide) rfl
theorem g_68_14 : (Hp L xs m).2.2.2 68 14 = m 68 14 := ov_mut (by decide) rfl
theorem p_68_14 : hput (Hp L xs m) 68 14 v = Hp L xs (put m 68 14 v) := hput_H (by decide) rfl
theorem g_68_15 : (Hp L xs m).2.2.2 68 15 = m 68 15 := ov_mut (by decide) rfl
theorem p_68_15 : hput (Hp L xs m) 68 15 v = Hp L xs (put m 68 15 v) := hput_H (by decide) rfl
theorem ob_71 : xob (Hp L xs m) 3 71 = some 71 := ob_H (a := 71) rfl (by decide) rfl
theorem g_71_0 : (Hp L xs m).2.2.2 71 0 = 57 := ov_con (by decide) rfl (by decide)
theorem g_71_1 : (Hp L xs m).2.2.2 71 1 = m 71 1 := ov_mut (by decide) rfl
theorem p_71_1 : hput (Hp L xs m) 71 1 v = Hp L xs (put m 71 1 v) := hput_H (by decide) rfl
theorem g_71_2 : (Hp L xs m).2.2.2 71 2 = m 71 2 := ov_mut (by decide) rfl
theorem p_71_2 : hput (Hp L xs m) 71 2 v = Hp L xs (put m 71 2 v) := hput_H (by decide) rfl
theorem g_71_3 : (Hp L xs m).2.2.2 71 3 = m 71 3 := ov_mut (by decide) rfl
theorem p_71_3 : hput (Hp L xs m) 71 3 v = Hp L xs (put m 71 3 v) := hput_H (by decide) rfl
theorem g_71_4 : (Hp L xs m).2.2.2 71 4 = m 71 4 := ov_mut (by decide) rfl
theorem p_71_4 : hput (Hp L xs m) 71 4 v = Hp L xs (put m 71 4 v) := hput_H (by decide) rfl
theorem g_71_5 : (Hp L xs m).2.2.2 71 5 = m 71 5 := ov_mut (by decide) rfl
theorem p_71_5 : hput (Hp L xs m) 71 5 v = Hp L xs (put m 71 5 v) := hput_H (by decide) rfl
theorem g_71_6 : (Hp L xs m).2.2.2 71 6 = m 71 6 := ov_mut (by decide) rfl
theorem p_71_6 : hput (Hp L xs m) 71 6 v = Hp L xs (put m 71 6 v) := hput_H (by decide) rfl
theorem g_71_7 : (Hp L xs m).2.2.2 71 7 = m 71 7 := ov_mut (by decide) rfl
theorem p_71_7 : hput (Hp L xs m) 71 7 v = Hp L xs (put m 71 7 v) := hput_H (by decide) rfl
theorem g_71_8 : (Hp L xs m).2.2.2 71 8 = 72 := ov_con (by decide) rfl (by decide)
theorem ob_73 : xob (Hp L xs m) 6 73 = some 73 := ob_H (a := 73) rfl (by decide) rfl
theorem g_73_0 : (Hp L xs m).2.2.2 73 0 = m 73 0 := ov_mut (by decide) rfl
theorem p_73_0 : hput (Hp L xs m) 73 0 v = Hp L xs (put m 73 0 v) := hput_H (by decide) rfl
theorem g_73_1 : (Hp L xs m).2.2.2 73 1 = m 73 1 := ov_mut (by decide) rfl
theorem p_73_1 : hput (Hp L xs m) 73 1 v = Hp L xs (put m 73 1 v) := hput_H (by decide) rfl
theorem g_73_2 : (Hp L xs m).2.2.2 73 2 = 74 := ov_con (by decide) rfl (by decide)
theorem g_73_3 : (Hp L xs m).2.2.2 73 3 = 75 := ov_con (by decide) rfl (by decide)
theorem g_73_4 : (Hp L xs m).2.2.2 73 4 = 76 := ov_con (by decide) rfl (by decide)
theorem g_73_5 : (Hp L xs m).2.2.2 73 5 = 77 := ov_con (by decide) rfl (by decide)
theorem g_73_6 : (Hp L xs m).2.2.2 73 6 = m 73 6 := ov_mut (by decide) rfl
theorem p_73_6 : hput (Hp L xs m) 73 6 v = Hp L xs (put m 73 6 v) := hput_H (by decide) rfl
theorem g_73_7 : (Hp L xs m).2.2.2 73 7 = m 73 7 := ov_mut (by decide) rfl
theorem p_73_7 : hput (Hp L xs m) 73 7 v = Hp L xs (put m 73 7 v) := hput_H (by decide) rfl
theorem ob_78 : xob (Hp L xs m) 4 78 = some 78 := ob_H (a := 78) rfl (by decide) rfl
theorem g_78_0 : (Hp L xs m).2.2.2 78 0 = 79 := ov_con (by decide) rfl (by decide)
theorem g_78_1 : (Hp L xs m).2.2.2 78 1 = 80 := ov_con (by decide) rfl (by decide)
theorem g_78_2 : (Hp L xs m).2.2.2 78 2 = m 78 2 := ov_mut (by decide) rfl
theorem p_78_2 : hput (Hp L xs m) 78 2 v = Hp L xs (put m 78 2 v) := hput_H (by decide) rfl
theorem g_78_3 : (Hp L xs m).2.2.2 78 3 = m 78 3 := ov_mut (by decide) rfl
theorem p_78_3 : hput (Hp L xs m) 78 3 v = Hp L xs (put m 78 3 v) := hput_H (by decide) rfl
theorem g_78_4 : (Hp L xs m).2.2.2 78 4 = m 78 4 := ov_mut (by decide) rfl
theorem p_78_4 : hput (Hp L xs m) 78 4 v = Hp L xs (put m 78 4 v) := hput_H (by decide) rfl
theorem g_78_5 : (Hp L xs m).2.2.2 78 5 = m 78 5 := ov_mut (by decide) rfl
theorem p_78_5 : hput (Hp L xs m) 78 5 v = Hp L xs (put m 78 5 v) := hput_H (by decide) rfl
theorem g_78_6 : (Hp L xs m).2.2.2 78 6 = m 78 6 := ov_mut (by decide) rfl
theorem p_78_6 : hput (Hp L xs m) 78 6 v = Hp L xs (put m 78 6 v) := hput_H (by decide) rfl
theorem g_78_7 : (Hp L xs m).2.2.2 78 7 = 81 := ov_con (by decide) rfl (by decide)
theorem g_78_8 : (Hp L xs m).2.2.2 78 8 = m 78 8 := ov_mut (by decide) rfl
theorem p_78_8 : hput (Hp L xs m) 78 8 v = Hp L xs (put m 78 8 v) := hput_H (by decide) rfl
theorem g_78_9 : (Hp L xs m).2.2.2 78 9 = m 78 9 := ov_mut (by decide) rfl
theorem p_78_9 : hput (Hp L xs m) 78 9 v = Hp L xs (put m 78 9 v) := hput_H (by decide) rfl
theorem g_78_10 : (Hp L xs m).2.2.2 78 10 = 82 := ov_con (by decide) rfl (by decide)
theorem g_78_11 : (Hp L xs m).2.2.2 78 11 = m 78 11 := ov_mut (by decide) rfl
theorem p_78_11 : hput (Hp L xs m) 78 11 v = Hp L xs (put m 78 11 v) := hput_H (by decide) rfl
theorem g_78_12 : (Hp L xs m).2.2.2 78 12 = m 78 12 := ov_mut (by decide) rfl
theorem p_78_12 : hput (Hp L xs m) 78 12 v = Hp L xs (put m 78 12 v) := hput_H (by decide) rfl
theorem g_78_13 : (Hp L xs m).2.2.2 78 13 = m 78 13 := ov_mut (by decide) rfl
theorem p_78_13 : hput (Hp L xs m) 78 13 v = Hp L xs (put m 78 13 v) := hput_H (by decide) rfl
theorem ob_83 : xob (Hp L xs m) 1 83 = some 83 := ob_H (a := 83) rfl (by decide) rfl
theorem g_83_0 : (Hp L xs m).2.2.2 83 0 = m 83 0 := ov_mut (by decide) rfl
theorem p_83_0 : hput (Hp L xs m) 83 0 v = Hp L xs (put m 83 0 v) := hput_H (by decide) rfl
theorem g_83_1 : (Hp L xs m).2.2.2 83 1 = 84 := ov_con (by decide) rfl (by decide)
theorem g_83_2 : (Hp L xs m).2.2.2 83 2 = 85 := ov_con (by decide) rfl (by decide)
theorem g_83_3 : (Hp L xs m).2.2.2 83 3 = 86 := ov_con (by decide) rfl (by decide)
theorem g_83_4 : (Hp L xs m).2.2.2 83 4 = 87 := ov_con (by decide) rfl (by decide)
theorem g_83_5 : (Hp L xs m).2.2.2 83 5 = m 83 5 := ov_mut (by decide) rfl
theorem p_83_5 : hput (Hp L xs m) 83 5 v = Hp L xs (put m 83 5 v) := hput_H (by decide) rfl
theorem g_83_6 : (Hp L xs m).2.2.2 83 6 = 88 := ov_con (by decide) rfl (by decide)
theorem g_83_7 : (Hp L xs m).2.2.2 83 7 = 89 := ov_con (by decide) rfl (by decide)
theorem g_83_8 : (Hp L xs m).2.2.2 83 8 = 90 := ov_con (by decide) rfl (by decide)
theorem g_83_9 : (Hp L xs m).2.2.2 83 9 = 91 := ov_con (by decide) rfl (by decide)
theorem g_83_10 : (Hp L xs m).2.2.2 83 10 = m 83 10 := ov_mut (by decide) rfl
theorem p_83_10 : hput (Hp L xs m) 83 10 v = Hp L xs (put m 83 10 v) := hput_H (by decide) rfl
theorem g_83_11 : (Hp L xs m).2.2.2 83 11 = m 83 11 := ov_mut (by decide) rfl
theorem p_83_11 : hput (Hp L xs m) 83 11 v = Hp L xs (put m 83 11 v) := hput_H (by decide) rfl
theorem g_83_12 : (Hp L xs m).2.2.2 83 12 = m 83 12 := ov_mut (by decide) rfl
theorem p_83_12 : hput (Hp L xs m) 83 12 v = Hp L xs (put m 83 12 v) := hput_H (by decide) rfl
theorem g_83_13 : (Hp L xs m).2.2.2 83 13 = 92 := ov_con (by decide) rfl (by decide)
theorem ob_93 : xob (Hp L xs m) 1 93 = some 93 := ob_H (a := 93) rfl (by decide) rfl
theorem g_93_0 : (Hp L xs m).2.2.2 93 0 = m 93 0 := ov_mut (by decide) rfl
theorem p_93_0 : hput (Hp L xs m) 93 0 v = Hp L xs (put m 93 0 v) := hput_H (by decide) rfl
theorem g_93_1 : (Hp L xs m).2.2.2 93 1 = 94 := ov_con (by decide) rfl (by decide)
theorem g_93_2 : (Hp L xs m).2.2.2 93 2 = 95 := ov_con (by decide) rfl (by decide)
theorem g_93_3 : (Hp L xs m).2.2.2 93 3 = 96 := ov_con (by decide) rfl (by decide)
theorem g_93_4 : (Hp L xs m).2.2.2 93 4 = 97 := ov_con (by decide) rfl (by decide)
theorem g_93_5 : (Hp L xs m).2.2.2 93 5 = m 93 5 := ov_mut (by decide) rfl
theorem p_93_5 : hput (Hp L xs m) 93 5 v = Hp L xs (put m 93 5 v) := hput_H (by decide) rfl
theorem g_93_6 : (Hp L xs m).2.2.2 93 6 = 98 := ov_con (by decide) rfl (by decide)
theorem g_93_7 : (Hp L xs m).2.2.2 93 7 = 99 := ov_con (by decide) rfl (by decide)
theorem g_93_8 : (Hp L xs m).2.2.2 93 8 = 100 := ov_con (by decide) rfl (by decide)
theorem g_93_9 : (Hp L xs m).2.2.2 93 9 = 101 := ov_con (by decide) rfl (by decide)
theorem g_93_10 : (Hp L xs m).2.2.2 93 10 = m 93 10 := ov_mut (by decide) rfl
theorem p_93_10 : hput (Hp L xs m) 93 10 v = Hp L xs (put m 93 10 v) := hput_H (by decide) rfl
theorem g_93_11 : (Hp L xs m).2.2.2 93 11 = m 93 11 := ov_mut (by decide) rfl
theorem p_93_11 : hput (Hp L xs m) 93 11 v = Hp L xs (put m 93 11 v) := hput_H (by decide) rfl
theorem g_93_12 : (Hp L xs m).2.2.2 93 12 = m 93 12 := ov_mut (by decide) rfl
theorem p_93_12 : hput (Hp L xs m) 93 12 v = Hp L xs (put m 93 12 v) := hput_H (by decide) rfl
theorem g_93_13 : (Hp L xs m).2.2.2 93 13 = 102 := ov_con (by decide) rfl (by decide)
theorem ob_158 : xob (Hp L xs m) 11 158 = some 158 := ob_H (a := 158) rfl (by decide) rfl
theorem g_158_0 : (Hp L xs m).2.2.2 158 0 = 159 := ov_con (by decide) rfl (by decide)
theorem g_158_1 : (Hp L xs m).2.2.2 158 1 = m 158 1 := ov_mut (by decide) rfl
theorem p_158_1 : hput (Hp L xs m) 158 1 v = Hp L xs (put m 158 1 v) := hput_H (by decide) rfl
theorem g_158_2 : (Hp L xs m).2.2.2 158 2 = 160 := ov_con (by decide) rfl (by decide)
theorem g_158_3 : (Hp L xs m).2.2.2 158 3 = m 158 3 := ov_mut (by decide) rfl
theorem p_158_3 : hput (Hp L xs m) 158 3 v = Hp L xs (put m 158 3 v) := hput_H (by decide) rfl
theorem g_158_4 : (Hp L xs m).2.2.2 158 4 = m 158 4 := ov_mut (by decide) rfl
theorem p_158_4 : hput (Hp L xs m) 158 4 v = Hp L xs (put m 158 4 v) := hput_H (by decide) rfl
theorem g_158_5 : (Hp L xs m).2.2.2 158 5 = 161 := ov_con (by decide) rfl (by decide)
theorem g_158_6 : (Hp L xs m).2.2.2 158 6 = 162 := ov_con (by decide) rfl (by decide)
theorem g_158_7 : (Hp L xs m).2.2.2 158 7 = 163 := ov_con (by decide) rfl (by decide)
theorem g_158_8 : (Hp L xs m).2.2.2 158 8 = 164 := ov_con (by decide) rfl (by decide)
theorem g_158_9 : (Hp L xs m).2.2.2 158 9 = m 158 9 := ov_mut (by decide) rfl
theorem p_158_9 : hput (Hp L xs m) 158 9 v = Hp L xs (put m 158 9 v) := hput_H (by decide) rfl
theorem g_158_10 : (Hp L xs m).2.2.2 158 10 = m 158 10 := ov_mut (by decide) rfl
theorem p_158_10 : hput (Hp L xs m) 158 10 v = Hp L xs (put m 158 10 v) := hput_H (by decide) rfl
theorem g_158_11 : (Hp L xs m).2.2.2 158 11 = m 158 11 := ov_mut (by decide) rfl
theorem p_158_11 : hput (Hp L xs m) 158 11 v = Hp L xs (put m 158 11 v) := hput_H (by decide) rfl
theorem g_158_12 : (Hp L xs m).2.2.2 158 12 = m 158 12 := ov_mut (by decide) rfl
theorem p_158_12 : hput (Hp L xs m) 158 12 v = Hp L xs (put m 158 12 v) := hput_H (by decide) rfl
theorem g_158_13 : (Hp L xs m).2.2.2 158 13 = m 158 13 := ov_mut (by decide) rfl
theorem p_158_13 : hput (Hp L xs m) 158 13 v = Hp L xs (put m 158 13 v) := hput_H (by decide) rfl
theorem g_158_14 : (Hp L xs m).2.2.2 158 14 = m 158 14 := ov_mut (by decide) rfl
theorem p_158_14 : hput (Hp L xs m) 158 14 v = Hp L xs (put m 158 14 v) := hput_H (by decide) rfl
theorem g_158_15 : (Hp L xs m).2.2.2 158 15 = m 158 15 := ov_mut (by decide) rfl
theorem p_158_15 : hput (Hp L xs m) 158 15 v = Hp L xs (put m 158 15 v) := hput_H (by decide) rfl
theorem g_158_16 : (Hp L xs m).2.2.2 158 16 = m 158 16 := ov_mut (by decide) rfl
theorem p_158_16 : hput (Hp L xs m) 158 16 v = Hp L xs (put m 158 16 v) := hput_H (by decide) rfl
theorem g_158_17 : (Hp L xs m).2.2.2 158 17 = m 158 17 := ov_mut (by decide) rfl
theorem p_158_17 : hput (Hp L xs m) 158 17 v = Hp L xs (put m 158 17 v) := hput_H (by decide) rfl
theorem g_158_18 : (Hp L xs m).2.2.2 158 18 = 165 := ov_con (by decide) rfl (by decide)
theorem g_158_19 : (Hp L xs m).2.2.2 158 19 = 166 := ov_con (by decide) rfl (by decide)
theorem g_158_20 : (Hp L xs m).2.2.2 158 20 = 167 := ov_con (by decide) rfl (by decide)
theorem g_158_21 : (Hp L xs m).2.2.2 158 21 = m 158 21 := ov_mut (by decide) rfl
theorem p_158_21 : hput (Hp L xs m) 158 21 v = Hp L xs (put m 158 21 v) := hput_H (by decide) rfl
theorem g_158_22 : (Hp L xs m).2.2.2 158 22 = 168 := ov_con (by decide) rfl (by decide)
theorem g_158_23 : (Hp L xs m).2.2.2 158 23 = 169 := ov_con (by decide) rfl (by decide)
theorem g_158_24 : (Hp L xs m).2.2.2 158 24 = m 158 24 := ov_mut (by decide) rfl
theorem p_158_24 : hput (Hp L xs m) 158 24 v = Hp L xs (put m 158 24 v) := hput_H (by decide) rfl
theorem g_158_25 : (Hp L xs m).2.2.2 158 25 = m 158 25 := ov_mut (by decide) rfl
theorem p_158_25 : hput (Hp L xs m) 158 25 v = Hp L xs (put m 158 25 v) := hput_H (by decide) rfl
theorem g_158_26 : (Hp L xs m).2.2.2 158 26 = 170 := ov_con (by decide) rfl (by decide)
theorem g_158_27 : (Hp L xs m).2.2.2 158 27 = 171 := ov_con (by decide) rfl (by decide)
theorem g_158_28 : (Hp L xs m).2.2.2 158 28 = m 158 28 := ov_mut (by decide) rfl
theorem p_158_28 : hput (Hp L xs m) 158 28 v = Hp L xs (put m 158 28 v) := hput_H (by decide) rfl
theorem g_158_29 : (Hp L xs m).2.2.2 158 29 = m 158 29 := ov_mut (by decide) rfl
theorem p_158_29 : hput (Hp L xs m) 158 29 v = Hp L xs (put m 158 29 v) := hput_H (by decide) rfl
theorem g_158_30 : (Hp L xs m).2.2.2 158 30 = m 158 30 := ov_mut (by decide) rfl
theorem p_158_30 : hput (Hp L xs m) 158 30 v = Hp L xs (put m 158 30 v) := hput_H (by decide) rfl
theorem g_158_31 : (Hp L xs m).2.2.2 158 31 = m 158 31 := ov_mut (by decide) rfl
theorem p_158_31 : hput (Hp L xs m) 158 31 v = Hp L xs (put m 158 31 v) := hput_H (by decide) rfl
theorem g_158_32 : (Hp L xs m).2.2.2 158 32 = 172 := ov_con (by decide) rfl (by decide)
theorem g_158_33 : (Hp L xs m).2.2.2 158 33 = m 158 33 := ov_mut (by decide) rfl
theorem p_158_33 : hput (Hp L xs m) 158 33 v = Hp L xs (put m 158 33 v) := hput_H (by decide) rfl
theorem g_158_34 : (Hp L xs m).2.2.2 158 34 = 173 := ov_con (by decide) rfl (by decide)
theorem g_158_35 : (Hp L xs m).2.2.2 158 35 = 174 := ov_con (by decide) rfl (by decide)
theorem g_158_36 : (Hp L xs m).2.2.2 158 36 = m 158 36 := ov_mut (by decide) rfl
theorem p_158_36 : hput (Hp L xs m) 158 36 v = Hp L xs (put m 158 36 v) := hput_H (by decide) rfl
theorem g_158_37 : (Hp L xs m).2.2.2 158 37 = 175 := ov_con (by decide) rfl (by decide)
theorem g_158_38 : (Hp L xs m).2.2.2 158 38 = 176 := ov_con (by decide) rfl (by decide)
theorem g_158_39 : (Hp L xs m).2.2.2 158 39 = m 158 39 := ov_mut (by decide) rfl
theorem p_158_39 : hput (Hp L xs m) 158 39 v = Hp L xs (put m 158 39 v) := hput_H (by decide) rfl
theorem g_158_40 : (Hp L xs m).2.2.2 158 40 = m 158 40 := ov_mut (by decide) rfl
theorem p_158_40 : hput (Hp L xs m) 158 40 v = Hp L xs (put m 158 40 v) := hput_H (by decide) rfl
theorem g_158_41 : (Hp L xs m).2.2.2 158 41 = m 158 41 := ov_mut (by decide) rfl
theorem p_158_41 : hput (Hp L xs m) 158 41 v = Hp L xs (put m 158 41 v) := hput_H (by decide) rfl
theorem g_158_42 : (Hp L xs m).2.2.2 158 42 = 177 := ov_con (by decide) rfl (by decide)
theorem g_158_43 : (Hp L xs m).2.2.2 158 43 = 178 := ov_con (by decide) rfl (by decide)
theorem g_158_44 : (Hp L xs m).2.2.2 158 44 = 179 := ov_con (by decide) rfl (by decide)
theorem g_158_45 : (Hp L xs m).2.2.2 158 45 = 180 := ov_con (by decide) rfl (by decide)
theorem g_158_46 : (Hp L xs m).2.2.2 158 46 = m 158 46 := ov_mut (by decide) rfl
theorem p_158_46 : hput (Hp L xs m) 158 46 v = Hp L xs (put m 158 46 v) := hput_H (by decide) rfl
theorem g_158_47 : (Hp L xs m).2.2.2 158 47 = 181 := ov_con (by decide) rfl (by decide)
theorem g_158_48 : (Hp L xs m).2.2.2 158 48 = m 158 48 := ov_mut (by decide) rfl
theorem p_158_48 : hput (Hp L xs m) 158 48 v = Hp L xs (put m 158 48 v) := hput_H (by decide) rfl
theorem g_158_49 : (Hp L xs m).2.2.2 158 49 = m 158 49 := ov_mut (by decide) rfl
theorem p_158_49 : hput (Hp L xs m) 158 49 v = Hp L xs (put m 158 49 v) := hput_H (by decide) rfl
theorem g_158_50 : (Hp L xs m).2.2.2 158 50 = 182 := ov_con (by decide) rfl (by decide)
theorem g_158_51 : (Hp L xs m).2.2.2 158 51 = 183 := ov_con (by decide) rfl (by decide)
theorem g_158_52 : (Hp L xs m).2.2.2 158 52 = m 158 52 := ov_mut (by decide) rfl
theorem p_158_52 : hput (Hp L xs m) 158 52 v = Hp L xs (put m 158 52 v) := hput_H (by decide) rfl
theorem g_158_53 : (Hp L xs m).2.2.2 158 53 = m 158 53 := ov_mut (by decide) rfl
theorem p_158_53 : hput (Hp L xs m) 158 53 v = Hp L xs (put m 158 53 v) := hput_H (by decide) rfl
theorem g_158_54 : (Hp L xs m).2.2.2 158 54 = m 158 54 := ov_mut (by decide) rfl
theorem p_158_54 : hput (Hp L xs m) 158 54 v = Hp L xs (put m 158 54 v) := hput_H (by decide) rfl
theorem g_158_55 : (Hp L xs m).2.2.2 158 55 = m 158 55 := ov_mut (by decide) rfl
theorem p_158_55 : hput (Hp L xs m) 158 55 v = Hp L xs (put m 158 55 v) := hput_H (by decide) rfl
theorem g_158_56 : (Hp L xs m).2.2.2 158 56 = 184 := ov_con (by decide) rfl (by decide)
theorem g_158_57 : (Hp L xs m).2.2.2 158 57 = 185 := ov_con (by decide) rfl (by decide)
theorem g_158_58 : (Hp L xs m).2.2.2 158 58 = 186 := ov_con (by decide) rfl (by decide)
theorem g_158_59 : (Hp L xs m).2.2.2 158 59 = 187 := ov_con (by decide) rfl (by decide)
theorem g_158_60 : (Hp L xs m).2.2.2 158 60 = m 158 60 := ov_mut (by decide) rfl
theorem p_158_60 : hput (Hp L xs m) 158 60 v = Hp L xs (put m 158 60 v) := hput_H (by decide) rfl
theorem g_158_61 : (Hp L xs m).2.2.2 158 61 = m 158 61 := ov_mut (by decide) rfl
theorem p_158_61 : hput (Hp L xs m) 158 61 v = Hp L xs (put m 158 61 v) := hput_H (by decide) rfl
theorem g_158_62 : (Hp L xs m).2.2.2 158 62 = 188 := ov_con (by decide) rfl (by decide)
theorem g_158_63 : (Hp L xs m).2.2.2 158 63 = 189 := ov_con (by decide) rfl (by decide)
theorem g_158_64 : (Hp L xs m).2.2.2 158 64 = 190 := ov_con (by decide) rfl (by decide)
theorem g_158_65 : (Hp L xs m).2.2.2 158 65 = 191 := ov_con (by decide) rfl (by decide)
theorem g_158_66 : (Hp L xs m).2.2.2 158 66 = 192 := ov_con (by decide) rfl (by decide)
theorem g_158_67 : (Hp L xs m).2.2.2 158 67 = m 158 67 := ov_mut (by decide) rfl
theorem p_158_67 : hput (Hp L xs m) 158 67 v = Hp L xs (put m 158 67 v) := hput_H (by decide) rfl
theorem g_158_68 : (Hp L xs m).2.2.2 158 68 = m 158 68 := ov_mut (by decide) rfl
theorem p_158_68 : hput (Hp L xs m) 158 68 v = Hp L xs (put m 158 68 v) := hput_H (by decide) rfl
theorem g_158_69 : (Hp L xs m).2.2.2 158 69 = 193 := ov_con (by decide) rfl (by decide)
theorem g_158_70 : (Hp L xs m).2.2.2 158 70 = m 158 70 := ov_mut (by decide) rfl
theorem p_158_70 : hput (Hp L xs m) 158 70 v = Hp L xs (put m 158 70 v) := hput_H (by decide) rfl
theorem g_158_71 : (Hp L xs m).2.2.2 158 71 = m 158 71 := ov_mut (by decide) rfl
theorem p_158_71 : hput (Hp L xs m) 158 71 v = Hp L xs (put m 158 71 v) := hput_H (by decide) rfl
theorem g_158_72 : (Hp L xs m).2.2.2 158 72 = 194 := ov_con (by decide) rfl (by decide)
theorem g_158_73 : (Hp L xs m).2.2.2 158 73 = 195 := ov_con (by decide) rfl (by decide)
theorem g_158_74 : (Hp L xs m).2.2.2 158 74 = m 158 74 := ov_mut (by decide) rfl
theorem p_158_74 : hput (Hp L xs m) 158 74 v = Hp L xs (put m 158 74 v) := hput_H (by decide) rfl
theorem g_158_75 : (Hp L xs m).2.2.2 158 75 = m 158 75 := ov_mut (by decide) rfl
theorem p_158_75 : hput (Hp L xs m) 158 75 v = Hp L xs (put m 158 75 v) := hput_H (by decide) rfl
theorem g_158_76 : (Hp L xs m).2.2.2 158 76 = m 158 76 := ov_mut (by decide) rfl
theorem p_158_76 : hput (Hp L xs m) 158 76 v = Hp L xs (put m 158 76 v) := hput_H (by decide) rfl
theorem g_158_77 : (Hp L xs m).2.2.2 158 77 = 196 := ov_con (by decide) rfl (by decide)
theorem g_158_78 : (Hp L xs m).2.2.2 158 78 = 197 := ov_con (by decide) rfl (by decide)
theorem g_158_79 : (Hp L xs m).2.2.2 158 79 = 198 := ov_con (by decide) rfl (by decide)
theorem g_158_80 : (Hp L xs m).2.2.2 158 80 = m 158 80 := ov_mut (by decide) rfl
theorem p_158_80 : hput (Hp L xs m) 158 80 v = Hp L xs (put m 158 80 v) := hput_H (by decide) rfl
theorem g_158_81 : (Hp L xs m).2.2.2 158 81 = 199 := ov_con (by decide) rfl (by decide)
theorem g_158_82 : (Hp L xs m).2.2.2 158 82 = 200 := ov_con (by decide) rfl (by decide)
theorem g_158_83 : (Hp L xs m).2.2.2 158 83 = m 158 83 := ov_mut (by decide) rfl
theorem p_158_83 : hput (Hp L xs m) 158 83 v = Hp L xs (put m 158 83 v) := hput_H (by decide) rfl
theorem g_158_84 : (Hp L xs m).2.2.2 158 84 = m 158 84 := ov_mut (by decide) rfl
theorem p_158_84 : hput (Hp L xs m) 158 84 v = Hp L xs (put m 158 84 v) := hput_H (by decide) rfl
theorem g_158_85 : (Hp L xs m).2.2.2 158 85 = m 158 85 := ov_mut (by decide) rfl
theorem p_158_85 : hput (Hp L xs m) 158 85 v = Hp L xs (put m 158 85 v) := hput_H (by decide) rfl
theorem g_158_86 : (Hp L xs m).2.2.2 158 86 = m 158 86 := ov_mut (by decide) rfl
theorem p_158_86 : hput (Hp L xs m) 158 86 v = Hp L xs (put m 158 86 v) := hput_H (by decide) rfl
theorem g_158_87 : (Hp L xs m).2.2.2 158 87 = 201 := ov_con (by decide) rfl (by decide)
theorem g_158_88 : (Hp L xs m).2.2.2 158 88 = 202 := ov_con (by decide) rfl (by decide)
theorem g_158_89 : (Hp L xs m).2.2.2 158 89 = 203 := ov_con (by decide) rfl (by decide)
theorem g_158_90 : (Hp L xs m).2.2.2 158 90 = 204 := ov_con (by decide) rfl (by decide)
theorem g_158_91 : (Hp L xs m).2.2.2 158 91 = m 158 91 := ov_mut (by decide) rfl
theorem p_158_91 : hput (Hp L xs m) 158 91 v = Hp L xs (put m 158 91 v) := hput_H (by decide) rfl
theorem g_158_92 : (Hp L xs m).2.2.2 158 92 = 205 := ov_con (by decide) rfl (by decide)
theorem g_158_93 : (Hp L xs m).2.2.2 158 93 = 206 := ov_con (by decide) rfl (by decide)
theorem g_158_94 : (Hp L xs m).2.2.2 158 94 = 207 := ov_con (by decide) rfl (by decide)
theorem g_158_95 : (Hp L xs m).2.2.2 158 95 = m 158 95 := ov_mut (by decide) rfl
theorem p_158_95 : hput (Hp L xs m) 158 95 v = Hp L xs (put m 158 95 v) := hput_H (by decide) rfl
theorem g_158_96 : (Hp L xs m).2.2.2 158 96 = m 158 96 := ov_mut (by decide) rfl
theorem p_158_96 : hput (Hp L xs m) 158 96 v = Hp L xs (put m 158 96 v) := hput_H (by decide) rfl
theorem g_158_97 : (Hp L xs m).2.2.2 158 97 = m 158 97 := ov_mut (by decide) rfl
theorem p_158_97 : hput (Hp L xs m) 158 97 v = Hp L xs (put m 158 97 v) := hput_H (by decide) rfl
theorem g_158_98 : (Hp L xs m).2.2.2 158 98 = m 158 98 := ov_mut (by decide) rfl
theorem p_158_98 : hput (Hp L xs m) 158 98 v = Hp L xs (put m 158 98 v) := hput_H (by decide) rfl
theorem g_158_99 : (Hp L xs m).2.2.2 158 99 = m 158 99 := ov_mut (by decide) rfl
theorem p_158_99 : hput (Hp L xs m) 158 99 v = Hp L xs (put m 158 99 v) := hput_H (by decide) rfl
theorem g_158_100 : (Hp L xs m).2.2.2 158 100 = m 158 100 := ov_mut (by decide) rfl
theorem p_158_100 : hput (Hp L xs m) 158 100 v = Hp L xs (put m 158 100 v) := hput_H (by decide) rfl
theorem g_158_101 : (Hp L xs m).2.2.2 158 101 = m 158 101 := ov_mut (by decide) rfl
theorem p_158_101 : hput (Hp L xs m) 158 101 v = Hp L xs (put m 158 101 v) := hput_H (by decide) rfl
theorem g_158_102 : (Hp L xs m).2.2.2 158 102 = 208 := ov_con (by decide) rfl (by decide)
theorem g_158_103 : (Hp L xs m).2.2.2 158 103 = m 158 103 := ov_mut (by decide) rfl
theorem p_158_103 : hput (Hp L xs m) 158 103 v = Hp L xs (put m 158 103 v) := hput_H (by decide) rfl
theorem g_158_104 : (Hp L xs m).2.2.2 158 104 = m 158 104 := ov_mut (by decide) rfl
theorem p_158_104 : hput (Hp L xs m) 158 104 v = Hp L xs (put m 158 104 v) := hput_H (by decide) rfl
theorem g_158_105 : (Hp L xs m).2.2.2 158 105 = 209 := ov_con (by decide) rfl (by decide)
theorem g_158_106 : (Hp L xs m).2.2.2 158 106 = m 158 106 := ov_mut (by decide) rfl
theorem p_158_106 : hput (Hp L xs m) 158 106 v = Hp L xs (put m 158 106 v) := hput_H (by decide) rfl
theorem g_158_107 : (Hp L xs m).2.2.2 158 107 = 210 := ov_con (by decide) rfl (by decide)
theorem g_158_108 : (Hp L xs m).2.2.2 158 108 = m 158 108 := ov_mut (by decide) rfl
theorem p_158_108 : hput (Hp L xs m) 158 108 v = Hp L xs (put m 158 108 v) := hput_H (by decide) rfl
theorem g_158_109 : (Hp L xs m).2.2.2 158 109 = 211 := ov_con (by decide) rfl (by decide)
theorem g_158_110 : (Hp L xs m).2.2.2 158 110 = 212 := ov_con (by decide) rfl (by decide)
theorem g_158_111 : (Hp L xs m).2.2.2 158 111 = m 158 111 := ov_mut (by decide) rfl
theorem p_158_111 : hput (Hp L xs m) 158 111 v = Hp L xs (put m 158 111 v) := hput_H (by decide) rfl
theorem g_158_112 : (Hp L xs m).2.2.2 158 112 = 213 := ov_con (by decide) rfl (by decide)
theorem g_158_113 : (Hp L xs m).2.2.2 158 113 = 214 := ov_con (by decide) rfl (by decide)
theorem g_158_114 : (Hp L xs m).2.2.2 158 114 = m 158 114 := ov_mut (by decide) rfl
theorem p_158_114 : hput (Hp L xs m) 158 114 v = Hp L xs (put m 158 114 v) := hput_H (by decide) rfl
theorem g_158_115 : (Hp L xs m).2.2.2 158 115 = m 158 115 := ov_mut (by decide) rfl
theorem p_158_115 : hput (Hp L xs m) 158 115 v = Hp L xs (put m 158 115 v) := hput_H (by decide) rfl
theorem g_158_116 : (Hp L xs m).2.2.2 158 116 = 215 := ov_con (by decide) rfl (by decide)
theorem g_158_117 : (Hp L xs m).2.2.2 158 117 = 216 := ov_con (by decide) rfl (by decide)
theorem at_52 (h0 : 0 ≤ i) (h1 : i < 3000) : xat (Hp L xs m) 2 52 i = some (52, i.toNat) := at_H (a := 52) (n := 3000) rfl (by decide) rfl rfl h0 h1
theorem g_52 : (Hp L xs m).2.2.2 52 k = m 52 k := ov_mut (by decide) rfl
theorem p_52 : hput (Hp L xs m) 52 k v = Hp L xs (put m 52 k v) := hput_H (by decide) rfl
theorem n_52 : K7 2 (some (0, [52], (Lo, Hp L xs m))) = some (0, [3000], (Lo, Hp L xs m)) := k7_H (a := 52) rfl (by decide) rfl rfl
theorem at_53 (h0 : 0 ≤ i) (h1 : i < 3001) : xat (Hp L xs m) 0 53 i = some (53, i.toNat) := at_H (a := 53) (n := 3001) rfl (by decide) rfl rfl h0 h1
theorem g_53 : (Hp L xs m).2.2.2 53 k = m 53 k := ov_mut (by decide) rfl
theorem p_53 : hput (Hp L xs m) 53 k v = Hp L xs (put m 53 k v) := hput_H (by decide) rfl
theorem n_53 : K7 0 (some (0, [53], (Lo, Hp L xs m))) = some (0, [3001], (Lo, Hp L xs m)) := k7_H (a := 53) rfl (by decide) rfl rfl
theorem at_54 (h0 : 0 ≤ i) (h1 : i < 3001) : xat (Hp L xs m) 0 54 i = some (54, i.toNat) := at_H (a := 54) (n := 3001) rfl (by decide) rfl rfl h0 h1
theorem g_54 : (Hp L xs m).2.2.2 54 k = m 54 k := ov_mut (by decide) rfl
theorem p_54 : hput (Hp L xs m) 54 k v = Hp L xs (put m 54 k v) := hput_H (by decide) rfl
theorem n_54 : K7 0 (some (0, [54], (Lo, Hp L xs m))) = some (0, [3001], (Lo, Hp L xs m)) := k7_H (a := 54) rfl (by decide) rfl rfl
theorem at_55 (h0 : 0 ≤ i) (h1 : i < 3001) : xat (Hp L xs m) 0 55 i = some (55, i.toNat) := at_H (a := 55) (n := 3001) rfl (by decide) rfl rfl h0 h1
theorem g_55 : (Hp L xs m).2.2.2 55 k = m 55 k := ov_mut (by decide) rfl
theorem p_55 : hput (Hp L xs m) 55 k v = Hp L xs (put m 55 k v) := hput_H (by decide) rfl
theorem n_55 : K7 0 (some (0, [55], (Lo, Hp L xs m))) = some (0, [3001], (Lo, Hp L xs m)) := k7_H (a := 55) rfl (by decide) rfl rfl
theorem at_56 (h0 : 0 ≤ i) (h1 : i < 13) : xat (Hp L xs m) 1 56 i = some (56, i.toNat) := at_H (a := 56) (n := 13) rfl (by decide) rfl rfl h0 h1
theorem g_56 : (Hp L xs m).2.2.2 56 k = m 56 k := ov_mut (by decide) rfl
theorem p_56 : hput (Hp L xs m) 56 k v = Hp L xs (put m 56 k v) := hput_H (by decide) rfl
theorem n_56 : K7 1 (some (0, [56], (Lo, Hp L xs m))) = some (0, [13], (Lo, Hp L xs m)) := k7_H (a := 56) rfl (by decide) rfl rfl
theorem at_58 (h0 : 0 ≤ i) (h1 : i < 1510) : xat (Hp L xs m) 1 58 i = some (58, i.toNat) := at_H (a := 58) (n := 1510) rfl (by decide) rfl rfl h0 h1
theorem g_58 : (Hp L xs m).2.2.2 58 k = m 58 k := ov_mut (by decide) rfl
theorem p_58 : hput (Hp L xs m) 58 k v = Hp L xs (put m 58 k v) := hput_H (by decide) rfl
theorem n_58 : K7 1 (some (0, [58], (Lo, Hp L xs m))) = some (0, [1510], (Lo, Hp L xs m)) := k7_H (a := 58) rfl (by decide) rfl rfl
theorem at_59 (h0 : 0 ≤ i) (h1 : i < 1510) : xat (Hp L xs m) 0 59 i = some (59, i.toNat) := at_H (a := 59) (n := 1510) rfl (by decide) rfl rfl h0 h1
theorem g_59 : (Hp L xs m).2.2.2 59 k = m 59 k := ov_mut (by decide) rfl
theorem p_59 : hput (Hp L xs m) 59 k v = Hp L xs (put m 59 k v) := hput_H (by decide) rfl
theorem n_59 : K7 0 (some (0, [59], (Lo, Hp L xs m))) = some (0, [1510], (Lo, Hp L xs m)) := k7_H (a := 59) rfl (by decide) rfl rfl
theorem at_60 (h0 : 0 ≤ i) (h1 : i < 1510) : xat (Hp L xs m) 0 60 i = some (60, i.toNat) := at_H (a := 60) (n := 1510) rfl (by decide) rfl rfl h0 h1
theorem g_60 : (Hp L xs m).2.2.2 60 k = m 60 k := ov_mut (by decide) rfl
theorem p_60 : hput (Hp L xs m) 60 k v = Hp L xs (put m 60 k v) := hput_H (by decide) rfl
theorem n_60 : K7 0 (some (0, [60], (Lo, Hp L xs m))) = some (0, [1510], (Lo, Hp L xs m)) := k7_H (a := 60) rfl (by decide) rfl rfl
theorem at_61 (h0 : 0 ≤ i) (h1 : i < 1510) : xat (Hp L xs m) 0 61 i = some (61, i.toNat) := at_H (a := 61) (n := 1510) rfl (by decide) rfl rfl h0 h1
theorem g_61 : (Hp L xs m).2.2.2 61 k = m 61 k := ov_mut (by decide) rfl
theorem p_61 : hput (Hp L xs m) 61 k v = Hp L xs (put m 61 k v) := hput_H (by decide) rfl
theorem n_61 : K7 0 (some (0, [61], (Lo, Hp L xs m))) = some (0, [1510], (Lo, Hp L xs m)) := k7_H (a := 61) rfl (by decide) rfl rfl
theorem at_62 (h0 : 0 ≤ i) (h1 : i < 500) : xat (Hp L xs m) 0 62 i = some (62, i.toNat) := at_H (a := 62) (n := 500) rfl (by decide) rfl rfl h0 h1
theorem g_62 : (Hp L xs m).2.2.2 62 k = m 62 k := ov_mut (by decide) rfl
theorem p_62 : hput (Hp L xs m) 62 k v = Hp L xs (put m 62 k v) := hput_H (by decide) rfl
theorem n_62 : K7 0 (some (0, [62], (Lo, Hp L xs m))) = some (0, [500], (Lo, Hp L xs m)) := k7_H (a := 62) rfl (by decide) rfl rfl
theorem at_63 (h0 : 0 ≤ i) (h1 : i < 500) : xat (Hp L xs m) 0 63 i = some (63, i.toNat) := at_H (a := 63) (n := 500) rfl (by decide) rfl rfl h0 h1
theorem g_63 : (Hp L xs m).2.2.2 63 k = m 63 k := ov_mut (by decide) rfl
theorem p_63 : hput (Hp L xs m) 63 k v = Hp L xs (put m 63 k v) := hput_H (by decide) rfl
theorem n_63 : K7 0 (some (0, [63], (Lo, Hp L xs m))) = some (0, [500], (Lo, Hp L xs m)) := k7_H (a := 63) rfl (by decide) rfl rfl
theorem at_64 (h0 : 0 ≤ i) (h1 : i < 300) : xat (Hp L xs m) 0 64 i = some (64, i.toNat) := at_H (a := 64) (n := 300) rfl (by decide) rfl rfl h0 h1
theorem g_64 : (Hp L xs m).2.2.2 64 k = m 64 k := ov_mut (by decide) rfl
theorem p_64 : hput (Hp L xs m) 64 k v = Hp L xs (put m 64 k v) := hput_H (by decide) rfl
theorem n_64 : K7 0 (some (0, [64], (Lo, Hp L xs m))) = some (0, [300], (Lo, Hp L xs m)) := k7_H (a := 64) rfl (by decide) rfl rfl
theorem at_65 (h0 : 0 ≤ i) (h1 : i < 1510) : xat (Hp L xs m) 0 65 i = some (65, i.toNat) := at_H (a := 65) (n := 1510) rfl (by decide) rfl rfl h0 h1
theorem g_65 : (Hp L xs m).2.2.2 65 k = m 65 k := ov_mut (by decide) rfl
theorem p_65 : hput (Hp L xs m) 65 k v = Hp L xs (put m 65 k v) := hput_H (by decide) rfl
theorem n_65 : K7 0 (some (0, [65], (Lo, Hp L xs m))) = some (0, [1510], (Lo, Hp L xs m)) := k7_H (a := 65) rfl (by decide) rfl rfl
theorem at_66 (h0 : 0 ≤ i) (h1 : i < 301) : xat (Hp L xs m) 0 66 i = some (66, i.toNat) := at_H (a := 66) (n := 301) rfl (by decide) rfl rfl h0 h1
theorem g_66 : (Hp L xs m).2.2.2 66 k = m 66 k := ov_mut (by decide) rfl
theorem p_66 : hput (Hp L xs m) 66 k v = Hp L xs (put m 66 k v) := hput_H (by decide) rfl
theorem n_66 : K7 0 (some (0, [66], (Lo, Hp L xs m))) = some (0, [301], (Lo, Hp L xs m)) := k7_H (a := 66) rfl (by decide) rfl rfl
theorem at_69 (h0 : 0 ≤ i) (h1 : i < 1510) : xat (Hp L xs m) 0 69 i = some (69, i.toNat) := at_H (a := 69) (n := 1510) rfl (by decide) rfl rfl h0 h1
theorem g_69 : (Hp L xs m).2.2.2 69 k = m 69 k := ov_mut (by decide) rfl
theorem p_69 : hput (Hp L xs m) 69 k v = Hp L xs (put m 69 k v) := hput_H (by decide) rfl
theorem n_69 : K7 0 (some (0, [69], (Lo, Hp L xs m))) = some (0, [1510], (Lo, Hp L xs m)) := k7_H (a := 69) rfl (by decide) rfl rfl
theorem at_70 (h0 : 0 ≤ i) (h1 : i < 3000) : xat (Hp L xs m) 0 70 i = some (70, i.toNat) := at_H (a := 70) (n := 3000) rfl (by decide) rfl rfl h0 h1
theorem g_70 : (Hp L xs m).2.2.2 70 k = m 70 k := ov_mut (by decide) rfl
theorem p_70 : hput (Hp L xs m) 70 k v = Hp L xs (put m 70 k v) := hput_H (by decide) rfl
theorem n_70 : K7 0 (some (0, [70], (Lo, Hp L xs m))) = some (0, [3000], (Lo, Hp L xs m)) := k7_H (a := 70) rfl (by decide) rfl rfl
theorem at_72 (h0 : 0 ≤ i) (h1 : i < 3000) : xat (Hp L xs m) 0 72 i = some (72, i.toNat) := at_H (a := 72) (n := 3000) rfl (by decide) rfl rfl h0 h1
theorem g_72 : (Hp L xs m).2.2.2 72 k = m 72 k := ov_mut (by decide) rfl
theorem p_72 : hput (Hp L xs m) 72 k v = Hp L xs (put m 72 k v) := hput_H (by decide) rfl
theorem n_72 : K7 0 (some (0, [72], (Lo, Hp L xs m))) = some (0, [3000], (Lo, Hp L xs m)) := k7_H (a := 72) rfl (by decide) rfl rfl
theorem at_74 (h0 : 0 ≤ i) (h1 : i < 4104) : xat (Hp L xs m) 0 74 i = some (74, i.toNat) := at_H (a := 74) (n := 4104) rfl (by decide) rfl rfl h0 h1
theorem g_74 : (Hp L xs m).2.2.2 74 k = m 74 k := ov_mut (by decide) rfl
theorem p_74 : hput (Hp L xs m) 74 k v = Hp L xs (put m 74 k v) := hput_H (by decide) rfl
theorem n_74 : K7 0 (some (0, [74], (Lo, Hp L xs m))) = some (0, [4104], (Lo, Hp L xs m)) := k7_H (a := 74) rfl (by decide) rfl rfl
theorem at_75 (h0 : 0 ≤ i) (h1 : i < 4104) : xat (Hp L xs m) 0 75 i = some (75, i.toNat) := at_H (a := 75) (n := 4104) rfl (by decide) rfl rfl h0 h1
theorem g_75 : (Hp L xs m).2.2.2 75 k = m 75 k := ov_mut (by decide) rfl
theorem p_75 : hput (Hp L xs m) 75 k v = Hp L xs (put m 75 k v) := hput_H (by decide) rfl
theorem n_75 : K7 0 (some (0, [75], (Lo, Hp L xs m))) = some (0, [4104], (Lo, Hp L xs m)) := k7_H (a := 75) rfl (by decide) rfl rfl
theorem at_76 (h0 : 0 ≤ i) (h1 : i < 4104) : xat (Hp L xs m) 0 76 i = some (76, i.toNat) := at_H (a := 76) (n := 4104) rfl (by decide) rfl rfl h0 h1
theorem g_76 : (Hp L xs m).2.2.2 76 k = m 76 k := ov_mut (by decide) rfl
theorem p_76 : hput (Hp L xs m) 76 k v = Hp L xs (put m 76 k v) := hput_H (by decide) rfl
theorem n_76 : K7 0 (some (0, [76], (Lo, Hp L xs m))) = some (0, [4104], (Lo, Hp L xs m)) := k7_H (a := 76) rfl (by decide) rfl rfl
theorem at_77 (h0 : 0 ≤ i) (h1 : i < 4104) : xat (Hp L xs m) 0 77 i = some (77, i.toNat) := at_H (a := 77) (n := 4104) rfl (by decide) rfl rfl h0 h1
theorem g_77 : (Hp L xs m).2.2.2 77 k = m 77 k := ov_mut (by decide) rfl
theorem p_77 : hput (Hp L xs m) 77 k v = Hp L xs (put m 77 k v) := hput_H (by decide) rfl
theorem n_77 : K7 0 (some (0, [77], (Lo, Hp L xs m))) = some (0, [4104], (Lo, Hp L xs m)) := k7_H (a := 77) rfl (by decide) rfl rfl
theorem at_79 (h0 : 0 ≤ i) (h1 : i < 8192) : xat (Hp L xs m) 0 79 i = some (79, i.toNat) := at_H (a := 79) (n := 8192) rfl (by decide) rfl rfl h0 h1
theorem g_79 : (Hp L xs m).2.2.2 79 k = m 79 k := ov_mut (by decide) rfl
theorem p_79 : hput (Hp L xs m) 79 k v = Hp L xs (put m 79 k v) := hput_H (by decide) rfl
theorem n_79 : K7 0 (some (0, [79], (Lo, Hp L xs m))) = some (0, [8192], (Lo, Hp L xs m)) := k7_H (a := 79) rfl (by decide) rfl rfl
theorem at_80 (h0 : 0 ≤ i) (h1 : i < 8) : xat (Hp L xs m) 0 80 i = some (80, i.toNat) := at_H (a := 80) (n := 8) rfl (by decide) rfl rfl h0 h1
theorem g_80 : (Hp L xs m).2.2.2 80 k = m 80 k := ov_mut (by decide) rfl
theorem p_80 : hput (Hp L xs m) 80 k v = Hp L xs (put m 80 k v) := hput_H (by decide) rfl
theorem n_80 : K7 0 (some (0, [80], (Lo, Hp L xs m))) = some (0, [8], (Lo, Hp L xs m)) := k7_H (a := 80) rfl (by decide) rfl rfl
theorem at_81 (h0 : 0 ≤ i) (h1 : i < 200) : xat (Hp L xs m) 0 81 i = some (81, i.toNat) := at_H (a := 81) (n := 200) rfl (by decide) rfl rfl h0 h1
theorem g_81 : (Hp L xs m).2.2.2 81 k = m 81 k := ov_mut (by decide) rfl
theorem p_81 : hput (Hp L xs m) 81 k v = Hp L xs (put m 81 k v) := hput_H (by decide) rfl
theorem n_81 : K7 0 (some (0, [81], (Lo, Hp L xs m))) = some (0, [200], (Lo, Hp L xs m)) := k7_H (a := 81) rfl (by decide) rfl rfl
theorem at_82 (h0 : 0 ≤ i) (h1 : i < 500) : xat (Hp L xs m) 0 82 i = some (82, i.toNat) := at_H (a := 82) (n := 500) rfl (by decide) rfl rfl h0 h1
theorem g_82 : (Hp L xs m).2.2.2 82 k = m 82 k := ov_mut (by decide) rfl
theorem p_82 : hput (Hp L xs m) 82 k v = Hp L xs (put m 82 k v) := hput_H (by decide) rfl
theorem n_82 : K7 0 (some (0, [82], (Lo, Hp L xs m))) = some (0, [500], (Lo, Hp L xs m)) := k7_H (a := 82) rfl (by decide) rfl rfl
theorem at_84 (h0 : 0 ≤ i) (h1 : i < 3000) : xat (Hp L xs m) 0 84 i = some (84, i.toNat) := at_H (a := 84) (n := 3000) rfl (by decide) rfl rfl h0 h1
theorem g_84 : (Hp L xs m).2.2.2 84 k = m 84 k := ov_mut (by decide) rfl
theorem p_84 : hput (Hp L xs m) 84 k v = Hp L xs (put m 84 k v) := hput_H (by decide) rfl
theorem n_84 : K7 0 (some (0, [84], (Lo, Hp L xs m))) = some (0, [3000], (Lo, Hp L xs m)) := k7_H (a := 84) rfl (by decide) rfl rfl
theorem at_85 (h0 : 0 ≤ i) (h1 : i < 3000) : xat (Hp L xs m) 0 85 i = some (85, i.toNat) := at_H (a := 85) (n := 3000) rfl (by decide) rfl rfl h0 h1
theorem g_85 : (Hp L xs m).2.2.2 85 k = m 85 k := ov_mut (by decide) rfl
theorem p_85 : hput (Hp L xs m) 85 k v = Hp L xs (put m 85 k v) := hput_H (by decide) rfl
theorem n_85 : K7 0 (some (0, [85], (Lo, Hp L xs m))) = some (0, [3000], (Lo, Hp L xs m)) := k7_H (a := 85) rfl (by decide) rfl rfl
theorem at_86 (h0 : 0 ≤ i) (h1 : i < 3000) : xat (Hp L xs m) 0 86 i = some (86, i.toNat) := at_H (a := 86) (n := 3000) rfl (by decide) rfl rfl h0 h1
theorem g_86 : (Hp L xs m).2.2.2 86 k = m 86 k := ov_mut (by decide) rfl
theorem p_86 : hput (Hp L xs m) 86 k v = Hp L xs (put m 86 k v) := hput_H (by decide) rfl
theorem n_86 : K7 0 (some (0, [86], (Lo, Hp L xs m))) = some (0, [3000], (Lo, Hp L xs m)) := k7_H (a := 86) rfl (by decide) rfl rfl
theorem at_87 (h0 : 0 ≤ i) (h1 : i < 3000) : xat (Hp L xs m) 0 87 i = some (87, i.toNat) := at_H (a := 87) (n := 3000) rfl (by decide) rfl rfl h0 h1
theorem g_87 : (Hp L xs m).2.2.2 87 k = m 87 k := ov_mut (by decide) rfl
theorem p_87 : hput (Hp L xs m) 87 k v = Hp L xs (put m 87 k v) := hput_H (by decide) rfl
theorem n_87 : K7 0 (some (0, [87], (Lo, Hp L xs m))) = some (0, [3000], (Lo, Hp L xs m)) := k7_H (a := 87) rfl (by decide) rfl rfl
theorem at_88 (h0 : 0 ≤ i) (h1 : i < 40) : xat (Hp L xs m) 0 88 i = some (88, i.toNat) := at_H (a := 88) (n := 40) rfl (by decide) rfl rfl h0 h1
theorem g_88 : (Hp L xs m).2.2.2 88 k = m 88 k := ov_mut (by decide) rfl
theorem p_88 : hput (Hp L xs m) 88 k v = Hp L xs (put m 88 k v) := hput_H (by decide) rfl
theorem n_88 : K7 0 (some (0, [88], (Lo, Hp L xs m))) = some (0, [40], (Lo, Hp L xs m)) := k7_H (a := 88) rfl (by decide) rfl rfl
theorem at_89 (h0 : 0 ≤ i) (h1 : i < 40) : xat (Hp L xs m) 0 89 i = some (89, i.toNat) := at_H (a := 89) (n := 40) rfl (by decide) rfl rfl h0 h1
theorem g_89 : (Hp L xs m).2.2.2 89 k = m 89 k := ov_mut (by decide) rfl
theorem p_89 : hput (Hp L xs m) 89 k v = Hp L xs (put m 89 k v) := hput_H (by decide) rfl
theorem n_89 : K7 0 (some (0, [89], (Lo, Hp L xs m))) = some (0, [40], (Lo, Hp L xs m)) := k7_H (a := 89) rfl (by decide) rfl rfl
theorem at_90 (h0 : 0 ≤ i) (h1 : i < 40) : xat (Hp L xs m) 0 90 i = some (90, i.toNat) := at_H (a := 90) (n := 40) rfl (by decide) rfl rfl h0 h1
theorem g_90 : (Hp L xs m).2.2.2 90 k = m 90 k := ov_mut (by decide) rfl
theorem p_90 : hput (Hp L xs m) 90 k v = Hp L xs (put m 90 k v) := hput_H (by decide) rfl
theorem n_90 : K7 0 (some (0, [90], (Lo, Hp L xs m))) = some (0, [40], (Lo, Hp L xs m)) := k7_H (a := 90) rfl (by decide) rfl rfl
theorem at_91 (h0 : 0 ≤ i) (h1 : i < 40) : xat (Hp L xs m) 0 91 i = some (91, i.toNat) := at_H (a := 91) (n := 40) rfl (by decide) rfl rfl h0 h1
theorem g_91 : (Hp L xs m).2.2.2 91 k = m 91 k := ov_mut (by decide) rfl
theorem p_91 : hput (Hp L xs m) 91 k v = Hp L xs (put m 91 k v) := hput_H (by decide) rfl
theorem n_91 : K7 0 (some (0, [91], (Lo, Hp L xs m))) = some (0, [40], (Lo, Hp L xs m)) := k7_H (a := 91) rfl (by decide) rfl rfl
theorem at_92 (h0 : 0 ≤ i) (h1 : i < 6000) : xat (Hp L xs m) 0 92 i = some (92, i.toNat) := at_H (a := 92) (n := 6000) rfl (by decide) rfl rfl h0 h1
theorem g_92 : (Hp L xs m).2.2.2 92 k = m 92 k := ov_mut (by decide) rfl
theorem p_92 : hput (Hp L xs m) 92 k v = Hp L xs (put m 92 k v) := hput_H (by decide) rfl
theorem n_92 : K7 0 (some (0, [92], (Lo, Hp L xs m))) = some (0, [6000], (Lo, Hp L xs m)) := k7_H (a := 92) rfl (by decide) rfl rfl
theorem at_94 (h0 : 0 ≤ i) (h1 : i < 3000) : xat (Hp L xs m) 0 94 i = some (94, i.toNat) := at_H (a := 94) (n := 3000) rfl (by decide) rfl rfl h0 h1
theorem g_94 : (Hp L xs m).2.2.2 94 k = m 94 k := ov_mut (by decide) rfl
theorem p_94 : hput (Hp L xs m) 94 k v = Hp L xs (put m 94 k v) := hput_H (by decide) rfl
theorem n_94 : K7 0 (some (0, [94], (Lo, Hp L xs m))) = some (0, [3000], (Lo, Hp L xs m)) := k7_H (a := 94) rfl (by decide) rfl rfl
theorem at_95 (h0 : 0 ≤ i) (h1 : i < 3000) : xat (Hp L xs m) 0 95 i = some (95, i.toNat) := at_H (a := 95) (n := 3000) rfl (by decide) rfl rfl h0 h1
theorem g_95 : (Hp L xs m).2.2.2 95 k = m 95 k := ov_mut (by decide) rfl
theorem p_95 : hput (Hp L xs m) 95 k v = Hp L xs (put m 95 k v) := hput_H (by decide) rfl
theorem n_95 : K7 0 (some (0, [95], (Lo, Hp L xs m))) = some (0, [3000], (Lo, Hp L xs m)) := k7_H (a := 95) rfl (by decide) rfl rfl
theorem at_96 (h0 : 0 ≤ i) (h1 : i < 3000) : xat (Hp L xs m) 0 96 i = some (96, i.toNat) := at_H (a := 96) (n := 3000) rfl (by decide) rfl rfl h0 h1
theorem g_96 : (Hp L xs m).2.2.2 96 k = m 96 k := ov_mut (by decide) rfl
theorem p_96 : hput (Hp L xs m) 96 k v = Hp L xs (put m 96 k v) := hput_H (by decide) rfl
theorem n_96 : K7 0 (some (0, [96], (Lo, Hp L xs m))) = some (0, [3000], (Lo, Hp L xs m)) := k7_H (a := 96) rfl (by decide) rfl rfl
theorem at_97 (h0 : 0 ≤ i) (h1 : i < 3000) : xat (Hp L xs m) 0 97 i = some (97, i.toNat) := at_H (a := 97) (n := 3000) rfl (by decide) rfl rfl h0 h1
theorem g_97 : (Hp L xs m).2.2.2 97 k = m 97 k := ov_mut (by decide) rfl
theorem p_97 : hput (Hp L xs m) 97 k v = Hp L xs (put m 97 k v) := hput_H (by decide) rfl
theorem n_97 : K7 0 (some (0, [97], (Lo, Hp L xs m))) = some (0, [3000], (Lo, Hp L xs m)) := k7_H (a := 97) rfl (by decide) rfl rfl
theorem at_98 (h0 : 0 ≤ i) (h1 : i < 40) : xat (Hp L xs m) 0 98 i = some (98, i.toNat) := at_H (a := 98) (n := 40) rfl (by decide) rfl rfl h0 h1
theorem g_98 : (Hp L xs m).2.2.2 98 k = m 98 k := ov_mut (by decide) rfl
theorem p_98 : hput (Hp L xs m) 98 k v = Hp L xs (put m 98 k v) := hput_H (by decide) rfl
theorem n_98 : K7 0 (some (0, [98], (Lo, Hp L xs m))) = some (0, [40], (Lo, Hp L xs m)) := k7_H (a := 98) rfl (by decide) rfl rfl
theorem at_99 (h0 : 0 ≤ i) (h1 : i < 40) : xat (Hp L xs m) 0 99 i = some (99, i.toNat) := at_H (a := 99) (n := 40) rfl (by decide) rfl rfl h0 h1
theorem g_99 : (Hp L xs m).2.2.2 99 k = m 99 k := ov_mut (by decide) rfl
theorem p_99 : hput (Hp L xs m) 99 k v = Hp L xs (put m 99 k v) := hput_H (by decide) rfl
theorem n_99 : K7 0 (some (0, [99], (Lo, Hp L xs m))) = some (0, [40], (Lo, Hp L xs m)) := k7_H (a := 99) rfl (by decide) rfl rfl
theorem at_100 (h0 : 0 ≤ i) (h1 : i < 40) : xat (Hp L xs m) 0 100 i = some (100, i.toNat) := at_H (a := 100) (n := 40) rfl (by decide) rfl rfl h0 h1
theorem g_100 : (Hp L xs m).2.2.2 100 k = m 100 k := ov_mut (by decide) rfl
theorem p_100 : hput (Hp L xs m) 100 k v = Hp L xs (put m 100 k v) := hput_H (by decide) rfl
theorem n_100 : K7 0 (some (0, [100], (Lo, Hp L xs m))) = some (0, [40], (Lo, Hp L xs m)) := k7_H (a := 100) rfl (by decide) rfl rfl
theorem at_101 (h0 : 0 ≤ i) (h1 : i < 40) : xat (Hp L xs m) 0 101 i = some (101, i.toNat) := at_H (a := 101) (n := 40) rfl (by decide) rfl rfl h0 h1
theorem g_101 : (Hp L xs m).2.2.2 101 k = m 101 k := ov_mut (by decide) rfl
theorem p_101 : hput (Hp L xs m) 101 k v = Hp L xs (put m 101 k v) := hput_H (by decide) rfl
theorem n_101 : K7 0 (some (0, [101], (Lo, Hp L xs m))) = some (0, [40], (Lo, Hp L xs m)) := k7_H (a := 101) rfl (by decide) rfl rfl
theorem at_102 (h0 : 0 ≤ i) (h1 : i < 6000) : xat (Hp L xs m) 0 102 i = some (102, i.toNat) := at_H (a := 102) (n := 6000) rfl (by decide) rfl rfl h0 h1
theorem g_102 : (Hp L xs m).2.2.2 102 k = m 102 k := ov_mut (by decide) rfl
theorem p_102 : hput (Hp L xs m) 102 k v = Hp L xs (put m 102 k v) := hput_H (by decide) rfl
theorem n_102 : K7 0 (some (0, [102], (Lo, Hp L xs m))) = some (0, [6000], (Lo, Hp L xs m)) := k7_H (a := 102) rfl (by decide) rfl rfl
theorem at_159 (h0 : 0 ≤ i) (h1 : i < 3000) : xat (Hp L xs m) 0 159 i = some (159, i.toNat) := at_H (a := 159) (n := 3000) rfl (by decide) rfl rfl h0 h1
theorem g_159 : (Hp L xs m).2.2.2 159 k = m 159 k := ov_mut (by decide) rfl
theorem p_159 : hput (Hp L xs m) 159 k v = Hp L xs (put m 159 k v) := hput_H (by decide) rfl
theorem n_159 : K7 0 (some (0, [159], (Lo, Hp L xs m))) = some (0, [3000], (Lo, Hp L xs m)) := k7_H (a := 159) rfl (by decide) rfl rfl
theorem at_160 (h0 : 0 ≤ i) (h1 : i < 3000) : xat (Hp L xs m) 0 160 i = some (160, i.toNat) := at_H (a := 160) (n := 3000) rfl (by decide) rfl rfl h0 h1
theorem g_160 : (Hp L xs m).2.2.2 160 k = m 160 k := ov_mut (by decide) rfl
theorem p_160 : hput (Hp L xs m) 160 k v = Hp L xs (put m 160 k v) := hput_H (by decide) rfl
theorem n_160 : K7 0 (some (0, [160], (Lo, Hp L xs m))) = some (0, [3000], (Lo, Hp L xs m)) := k7_H (a := 160) rfl (by decide) rfl rfl
theorem at_161 (h0 : 0 ≤ i) (h1 : i < 3001) : xat (Hp L xs m) 0 161 i = some (161, i.toNat) := at_H (a := 161) (n := 3001) rfl (by decide) rfl rfl h0 h1
theorem g_161 : (Hp L xs m).2.2.2 161 k = m 161 k := ov_mut (by decide) rfl
theorem p_161 : hput (Hp L xs m) 161 k v = Hp L xs (put m 161 k v) := hput_H (by decide) rfl
theorem n_161 : K7 0 (some (0, [161], (Lo, Hp L xs m))) = some (0, [3001], (Lo, Hp L xs m)) := k7_H (a := 161) rfl (by decide) rfl rfl
theorem at_162 (h0 : 0 ≤ i) (h1 : i < 3001) : xat (Hp L xs m) 0 162 i = some (162, i.toNat) := at_H (a := 162) (n := 3001) rfl (by decide) rfl rfl h0 h1
theorem g_162 : (Hp L xs m).2.2.2 162 k = m 162 k := ov_mut (by decide) rfl
theorem p_162 : hput (Hp L xs m) 162 k v = Hp L xs (put m 162 k v) := hput_H (by decide) rfl
theorem n_162 : K7 0 (some (0, [162], (Lo, Hp L xs m))) = some (0, [3001], (Lo, Hp L xs m)) := k7_H (a := 162) rfl (by decide) rfl rfl
theorem at_163 (h0 : 0 ≤ i) (h1 : i < 3001) : xat (Hp L xs m) 1 163 i = some (163, i.toNat) := at_H (a := 163) (n := 3001) rfl (by decide) rfl rfl h0 h1
theorem g_163 : (Hp L xs m).2.2.2 163 k = m 163 k := ov_mut (by decide) rfl
theorem p_163 : hput (Hp L xs m) 163 k v = Hp L xs (put m 163 k v) := hput_H (by decide) rfl
theorem n_163 : K7 1 (some (0, [163], (Lo, Hp L xs m))) = some (0, [3001], (Lo, Hp L xs m)) := k7_H (a := 163) rfl (by decide) rfl rfl
theorem at_164 (h0 : 0 ≤ i) (h1 : i < 14) : xat (Hp L xs m) 1 164 i = some (164, i.toNat) := at_H (a := 164) (n := 14) rfl (by decide) rfl rfl h0 h1
theorem g_164 : (Hp L xs m).2.2.2 164 k = m 164 k := ov_mut (by decide) rfl
theorem p_164 : hput (Hp L xs m) 164 k v = Hp L xs (put m 164 k v) := hput_H (by decide) rfl
theorem n_164 : K7 1 (some (0, [164], (Lo, Hp L xs m))) = some (0, [14], (Lo, Hp L xs m)) := k7_H (a := 164) rfl (by decide) rfl rfl
theorem at_165 (h0 : 0 ≤ i) (h1 : i < 1600) : xat (Hp L xs m) 1 165 i = some (165, i.toNat) := at_H (a := 165) (n := 1600) rfl (by decide) rfl rfl h0 h1
theorem g_165 : (Hp L xs m).2.2.2 165 k = m 165 k := ov_mut (by decide) rfl
theorem p_165 : hput (Hp L xs m) 165 k v = Hp L xs (put m 165 k v) := hput_H (by decide) rfl
theorem n_165 : K7 1 (some (0, [165], (Lo, Hp L xs m))) = some (0, [1600], (Lo, Hp L xs m)) := k7_H (a := 165) rfl (by decide) rfl rfl
theorem at_166 (h0 : 0 ≤ i) (h1 : i < 1600) : xat (Hp L xs m) 0 166 i = some (166, i.toNat) := at_H (a := 166) (n := 1600) rfl (by decide) rfl rfl h0 h1
theorem g_166 : (Hp L xs m).2.2.2 166 k = m 166 k := ov_mut (by decide) rfl
theorem p_166 : hput (Hp L xs m) 166 k v = Hp L xs (put m 166 k v) := hput_H (by decide) rfl
theorem n_166 : K7 0 (some (0, [166], (Lo, Hp L xs m))) = some (0, [1600], (Lo, Hp L xs m)) := k7_H (a := 166) rfl (by decide) rfl rfl
theorem at_167 (h0 : 0 ≤ i) (h1 : i < 1600) : xat (Hp L xs m) 0 167 i = some (167, i.toNat) := at_H (a := 167) (n := 1600) rfl (by decide) rfl rfl h0 h1
theorem g_167 : (Hp L xs m).2.2.2 167 k = m 167 k := ov_mut (by decide) rfl
theorem p_167 : hput (Hp L xs m) 167 k v = Hp L xs (put m 167 k v) := hput_H (by decide) rfl
theorem n_167 : K7 0 (some (0, [167], (Lo, Hp L xs m))) = some (0, [1600], (Lo, Hp L xs m)) := k7_H (a := 167) rfl (by decide) rfl rfl
theorem at_168 (h0 : 0 ≤ i) (h1 : i < 1600) : xat (Hp L xs m) 0 168 i = some (168, i.toNat) := at_H (a := 168) (n := 1600) rfl (by decide) rfl rfl h0 h1
theorem g_168 : (Hp L xs m).2.2.2 168 k = m 168 k := ov_mut (by decide) rfl
theorem p_168 : hput (Hp L xs m) 168 k v = Hp L xs (put m 168 k v) := hput_H (by decide) rfl
theorem n_168 : K7 0 (some (0, [168], (Lo, Hp L xs m))) = some (0, [1600], (Lo, Hp L xs m)) := k7_H (a := 168) rfl (by decide) rfl rfl
theorem at_169 (h0 : 0 ≤ i) (h1 : i < 1600) : xat (Hp L xs m) 0 169 i = some (169, i.toNat) := at_H (a := 169) (n := 1600) rfl (by decide) rfl rfl h0 h1
theorem g_169 : (Hp L xs m).2.2.2 169 k = m 169 k := ov_mut (by decide) rfl
theorem p_169 : hput (Hp L xs m) 169 k v = Hp L xs (put m 169 k v) := hput_H (by decide) rfl
theorem n_169 : K7 0 (some (0, [169], (Lo, Hp L xs m))) = some (0, [1600], (Lo, Hp L xs m)) := k7_H (a := 169) rfl (by decide) rfl rfl
theorem at_170 (h0 : 0 ≤ i) (h1 : i < 1600) : xat (Hp L xs m) 0 170 i = some (170, i.toNat) := at_H (a := 170) (n := 1600) rfl (by decide) rfl rfl h0 h1
theorem g_170 : (Hp L xs m).2.2.2 170 k = m 170 k := ov_mut (by decide) rfl
theorem p_170 : hput (Hp L xs m) 170 k v = Hp L xs (put m 170 k v) := hput_H (by decide) rfl
theorem n_170 : K7 0 (some (0, [170], (Lo, Hp L xs m))) = some (0, [1600], (Lo, Hp L xs m)) := k7_H (a := 170) rfl (by decide) rfl rfl
theorem at_171 (h0 : 0 ≤ i) (h1 : i < 1600) : xat (Hp L xs m) 0 171 i = some (171, i.toNat) := at_H (a := 171) (n := 1600) rfl (by decide) rfl rfl h0 h1
theorem g_171 : (Hp L xs m).2.2.2 171 k = m 171 k := ov_mut (by decide) rfl
theorem p_171 : hput (Hp L xs m) 171 k v = Hp L xs (put m 171 k v) := hput_H (by decide) rfl
theorem n_171 : K7 0 (some (0, [171], (Lo, Hp L xs m))) = some (0, [1600], (Lo, Hp L xs m)) := k7_H (a := 171) rfl (by decide) rfl rfl
theorem at_172 (h0 : 0 ≤ i) (h1 : i < 1600) : xat (Hp L xs m) 1 172 i = some (172, i.toNat) := at_H (a := 172) (n := 1600) rfl (by decide) rfl rfl h0 h1
theorem g_172 : (Hp L xs m).2.2.2 172 k = m 172 k := ov_mut (by decide) rfl
theorem p_172 : hput (Hp L xs m) 172 k v = Hp L xs (put m 172 k v) := hput_H (by decide) rfl
theorem n_172 : K7 1 (some (0, [172], (Lo, Hp L xs m))) = some (0, [1600], (Lo, Hp L xs m)) := k7_H (a := 172) rfl (by decide) rfl rfl
theorem at_173 (h0 : 0 ≤ i) (h1 : i < 1600) : xat (Hp L xs m) 0 173 i = some (173, i.toNat) := at_H (a := 173) (n := 1600) rfl (by decide) rfl rfl h0 h1
theorem g_173 : (Hp L xs m).2.2.2 173 k = m 173 k := ov_mut (by decide) rfl
theorem p_173 : hput (Hp L xs m) 173 k v = Hp L xs (put m 173 k v) := hput_H (by decide) rfl
theorem n_173 : K7 0 (some (0, [173], (Lo, Hp L xs m))) = some (0, [1600], (Lo, Hp L xs m)) := k7_H (a := 173) rfl (by decide) rfl rfl
theorem at_174 (h0 : 0 ≤ i) (h1 : i < 1600) : xat (Hp L xs m) 0 174 i = some (174, i.toNat) := at_H (a := 174) (n := 1600) rfl (by decide) rfl rfl h0 h1
theorem g_174 : (Hp L xs m).2.2.2 174 k = m 174 k := ov_mut (by decide) rfl
theorem p_174 : hput (Hp L xs m) 174 k v = Hp L xs (put m 174 k v) := hput_H (by decide) rfl
theorem n_174 : K7 0 (some (0, [174], (Lo, Hp L xs m))) = some (0, [1600], (Lo, Hp L xs m)) := k7_H (a := 174) rfl (by decide) rfl rfl
theorem at_175 (h0 : 0 ≤ i) (h1 : i < 1600) : xat (Hp L xs m) 0 175 i = some (175, i.toNat) := at_H (a := 175) (n := 1600) rfl (by decide) rfl rfl h0 h1
theorem g_175 : (Hp L xs m).2.2.2 175 k = m 175 k := ov_mut (by decide) rfl
theorem p_175 : hput (Hp L xs m) 175 k v = Hp L xs (put m 175 k v) := hput_H (by decide) rfl
theorem n_175 : K7 0 (some (0, [175], (Lo, Hp L xs m))) = some (0, [1600], (Lo, Hp L xs m)) := k7_H (a := 175) rfl (by decide) rfl rfl
theorem at_176 (h0 : 0 ≤ i) (h1 : i < 800) : xat (Hp L xs m) 0 176 i = some (176, i.toNat) := at_H (a := 176) (n := 800) rfl (by decide) rfl rfl h0 h1
theorem g_176 : (Hp L xs m).2.2.2 176 k = m 176 k := ov_mut (by decide) rfl
theorem p_176 : hput (Hp L xs m) 176 k v = Hp L xs (put m 176 k v) := hput_H (by decide) rfl
theorem n_176 : K7 0 (some (0, [176], (Lo, Hp L xs m))) = some (0, [800], (Lo, Hp L xs m)) := k7_H (a := 176) rfl (by decide) rfl rfl
theorem at_177 (h0 : 0 ≤ i) (h1 : i < 12000) : xat (Hp L xs m) 0 177 i = some (177, i.toNat) := at_H (a := 177) (n := 12000) rfl (by decide) rfl rfl h0 h1
theorem g_177 : (Hp L xs m).2.2.2 177 k = m 177 k := ov_mut (by decide) rfl
theorem p_177 : hput (Hp L xs m) 177 k v = Hp L xs (put m 177 k v) := hput_H (by decide) rfl
theorem n_177 : K7 0 (some (0, [177], (Lo, Hp L xs m))) = some (0, [12000], (Lo, Hp L xs m)) := k7_H (a := 177) rfl (by decide) rfl rfl
theorem at_178 (h0 : 0 ≤ i) (h1 : i < 12000) : xat (Hp L xs m) 0 178 i = some (178, i.toNat) := at_H (a := 178) (n := 12000) rfl (by decide) rfl rfl h0 h1
theorem g_178 : (Hp L xs m).2.2.2 178 k = m 178 k := ov_mut (by decide) rfl
theorem p_178 : hput (Hp L xs m) 178 k v = Hp L xs (put m 178 k v) := hput_H (by decide) rfl
theorem n_178 : K7 0 (some (0, [178], (Lo, Hp L xs m))) = some (0, [12000], (Lo, Hp L xs m)) := k7_H (a := 178) rfl (by decide) rfl rfl
theorem at_179 (h0 : 0 ≤ i) (h1 : i < 12000) : xat (Hp L xs m) 0 179 i = some (179, i.toNat) := at_H (a := 179) (n := 12000) rfl (by decide) rfl rfl h0 h1
theorem g_179 : (Hp L xs m).2.2.2 179 k = m 179 k := ov_mut (by decide) rfl
theorem p_179 : hput (Hp L xs m) 179 k v = Hp L xs (put m 179 k v) := hput_H (by decide) rfl
theorem n_179 : K7 0 (some (0, [179], (Lo, Hp L xs m))) = some (0, [12000], (Lo, Hp L xs m)) := k7_H (a := 179) rfl (by decide) rfl rfl
theorem at_180 (h0 : 0 ≤ i) (h1 : i < 12000) : xat (Hp L xs m) 0 180 i = some (180, i.toNat) := at_H (a := 180) (n := 12000) rfl (by decide) rfl rfl h0 h1
theorem g_180 : (Hp L xs m).2.2.2 180 k = m 180 k := ov_mut (by decide) rfl
theorem p_180 : hput (Hp L xs m) 180 k v = Hp L xs (put m 180 k v) := hput_H (by decide) rfl
theorem n_180 : K7 0 (some (0, [180], (Lo, Hp L xs m))) = some (0, [12000], (Lo, Hp L xs m)) := k7_H (a := 180) rfl (by decide) rfl rfl
theorem at_181 (h0 : 0 ≤ i) (h1 : i < 12000) : xat (Hp L xs m) 0 181 i = some (181, i.toNat) := at_H (a := 181) (n := 12000) rfl (by decide) rfl rfl h0 h1
theorem g_181 : (Hp L xs m).2.2.2 181 k = m 181 k := ov_mut (by decide) rfl
theorem p_181 : hput (Hp L xs m) 181 k v = Hp L xs (put m 181 k v) := hput_H (by decide) rfl
theorem n_181 : K7 0 (some (0, [181], (Lo, Hp L xs m))) = some (0, [12000], (Lo, Hp L xs m)) := k7_H (a := 181) rfl (by decide) rfl rfl
theorem at_182 (h0 : 0 ≤ i) (h1 : i < 1600) : xat (Hp L xs m) 0 182 i = some (182, i.toNat) := at_H (a := 182) (n := 1600) rfl (by decide) rfl rfl h0 h1
theorem g_182 : (Hp L xs m).2.2.2 182 k = m 182 k := ov_mut (by decide) rfl
theorem p_182 : hput (Hp L xs m) 182 k v = Hp L xs (put m 182 k v) := hput_H (by decide) rfl
theorem n_182 : K7 0 (some (0, [182], (Lo, Hp L xs m))) = some (0, [1600], (Lo, Hp L xs m)) := k7_H (a := 182) rfl (by decide) rfl rfl
theorem at_183 (h0 : 0 ≤ i) (h1 : i < 1600) : xat (Hp L xs m) 0 183 i = some (183, i.toNat) := at_H (a := 183) (n := 1600) rfl (by decide) rfl rfl h0 h1
theorem g_183 : (Hp L xs m).2.2.2 183 k = m 183 k := ov_mut (by decide) rfl
theorem p_183 : hput (Hp L xs m) 183 k v = Hp L xs (put m 183 k v) := hput_H (by decide) rfl
theorem n_183 : K7 0 (some (0, [183], (Lo, Hp L xs m))) = some (0, [1600], (Lo, Hp L xs m)) := k7_H (a := 183) rfl (by decide) rfl rfl
theorem at_184 (h0 : 0 ≤ i) (h1 : i < 12000) : xat (Hp L xs m) 0 184 i = some (184, i.toNat) := at_H (a := 184) (n := 12000) rfl (by decide) rfl rfl h0 h1
theorem g_184 : (Hp L xs m).2.2.2 184 k = m 184 k := ov_mut (by decide) rfl
theorem p_184 : hput (Hp L xs m) 184 k v = Hp L xs (put m 184 k v) := hput_H (by decide) rfl
theorem n_184 : K7 0 (some (0, [184], (Lo, Hp L xs m))) = some (0, [12000], (Lo, Hp L xs m)) := k7_H (a := 184) rfl (by decide) rfl rfl
theorem at_185 (h0 : 0 ≤ i) (h1 : i < 12000) : xat (Hp L xs m) 0 185 i = some (185, i.toNat) := at_H (a := 185) (n := 12000) rfl (by decide) rfl rfl h0 h1
theorem g_185 : (Hp L xs m).2.2.2 185 k = m 185 k := ov_mut (by decide) rfl
theorem p_185 : hput (Hp L xs m) 185 k v = Hp L xs (put m 185 k v) := hput_H (by decide) rfl
theorem n_185 : K7 0 (some (0, [185], (Lo, Hp L xs m))) = some (0, [12000], (Lo, Hp L xs m)) := k7_H (a := 185) rfl (by decide) rfl rfl
theorem at_186 (h0 : 0 ≤ i) (h1 : i < 12000) : xat (Hp L xs m) 0 186 i = some (186, i.toNat) := at_H (a := 186) (n := 12000) rfl (by decide) rfl rfl h0 h1
theorem g_186 : (Hp L xs m).2.2.2 186 k = m 186 k := ov_mut (by decide) rfl
theorem p_186 : hput (Hp L xs m) 186 k v = Hp L xs (put m 186 k v) := hput_H (by decide) rfl
theorem n_186 : K7 0 (some (0, [186], (Lo, Hp L xs m))) = some (0, [12000], (Lo, Hp L xs m)) := k7_H (a := 186) rfl (by decide) rfl rfl
theorem at_187 (h0 : 0 ≤ i) (h1 : i < 12000) : xat (Hp L xs m) 0 187 i = some (187, i.toNat) := at_H (a := 187) (n := 12000) rfl (by decide) rfl rfl h0 h1
theorem g_187 : (Hp L xs m).2.2.2 187 k = m 187 k := ov_mut (by decide) rfl
theorem p_187 : hput (Hp L xs m) 187 k v = Hp L xs (put m 187 k v) := hput_H (by decide) rfl
theorem n_187 : K7 0 (some (0, [187], (Lo, Hp L xs m))) = some (0, [12000], (Lo, Hp L xs m)) := k7_H (a := 187) rfl (by decide) rfl rfl
theorem at_188 (h0 : 0 ≤ i) (h1 : i < 40) : xat (Hp L xs m) 0 188 i = some (188, i.toNat) := at_H (a := 188) (n := 40) rfl (by decide) rfl rfl h0 h1
theorem g_188 : (Hp L xs m).2.2.2 188 k = m 188 k := ov_mut (by decide) rfl
theorem p_188 : hput (Hp L xs m) 188 k v = Hp L xs (put m 188 k v) := hput_H (by decide) rfl
theorem n_188 : K7 0 (some (0, [188], (Lo, Hp L xs m))) = some (0, [40], (Lo, Hp L xs m)) := k7_H (a := 188) rfl (by decide) rfl rfl
theorem at_189 (h0 : 0 ≤ i) (h1 : i < 40) : xat (Hp L xs m) 0 189 i = some (189, i.toNat) := at_H (a := 189) (n := 40) rfl (by decide) rfl rfl h0 h1
theorem g_189 : (Hp L xs m).2.2.2 189 k = m 189 k := ov_mut (by decide) rfl
theorem p_189 : hput (Hp L xs m) 189 k v = Hp L xs (put m 189 k v) := hput_H (by decide) rfl
theorem n_189 : K7 0 (some (0, [189], (Lo, Hp L xs m))) = some (0, [40], (Lo, Hp L xs m)) := k7_H (a := 189) rfl (by decide) rfl rfl
theorem at_190 (h0 : 0 ≤ i) (h1 : i < 40) : xat (Hp L xs m) 0 190 i = some (190, i.toNat) := at_H (a := 190) (n := 40) rfl (by decide) rfl rfl h0 h1
theorem g_190 : (Hp L xs m).2.2.2 190 k = m 190 k := ov_mut (by decide) rfl
theorem p_190 : hput (Hp L xs m) 190 k v = Hp L xs (put m 190 k v) := hput_H (by decide) rfl
theorem n_190 : K7 0 (some (0, [190], (Lo, Hp L xs m))) = some (0, [40], (Lo, Hp L xs m)) := k7_H (a := 190) rfl (by decide) rfl rfl
theorem at_191 (h0 : 0 ≤ i) (h1 : i < 40) : xat (Hp L xs m) 0 191 i = some (191, i.toNat) := at_H (a := 191) (n := 40) rfl (by decide) rfl rfl h0 h1
theorem g_191 : (Hp L xs m).2.2.2 191 k = m 191 k := ov_mut (by decide) rfl
theorem p_191 : hput (Hp L xs m) 191 k v = Hp L xs (put m 191 k v) := hput_H (by decide) rfl
theorem n_191 : K7 0 (some (0, [191], (Lo, Hp L xs m))) = some (0, [40], (Lo, Hp L xs m)) := k7_H (a := 191) rfl (by decide) rfl rfl
theorem at_192 (h0 : 0 ≤ i) (h1 : i < 1600) : xat (Hp L xs m) 3 192 i = some (192, i.toNat) := at_H (a := 192) (n := 1600) rfl (by decide) rfl rfl h0 h1
theorem g_192 : (Hp L xs m).2.2.2 192 k = m 192 k := ov_mut (by decide) rfl
theorem p_192 : hput (Hp L xs m) 192 k v = Hp L xs (put m 192 k v) := hput_H (by decide) rfl
theorem n_192 : K7 3 (some (0, [192], (Lo, Hp L xs m))) = some (0, [1600], (Lo, Hp L xs m)) := k7_H (a := 192) rfl (by decide) rfl rfl
theorem at_193 (h0 : 0 ≤ i) (h1 : i < 6001) : xat (Hp L xs m) 0 193 i = some (193, i.toNat) := at_H (a := 193) (n := 6001) rfl (by decide) rfl rfl h0 h1
theorem g_193 : (Hp L xs m).2.2.2 193 k = m 193 k := ov_mut (by decide) rfl
theorem p_193 : hput (Hp L xs m) 193 k v = Hp L xs (put m 193 k v) := hput_H (by decide) rfl
theorem n_193 : K7 0 (some (0, [193], (Lo, Hp L xs m))) = some (0, [6001], (Lo, Hp L xs m)) := k7_H (a := 193) rfl (by decide) rfl rfl
theorem at_194 (h0 : 0 ≤ i) (h1 : i < 60) : xat (Hp L xs m) 0 194 i = some (194, i.toNat) := at_H (a := 194) (n := 60) rfl (by decide) rfl rfl h0 h1
theorem g_194 : (Hp L xs m).2.2.2 194 k = m 194 k := ov_mut (by decide) rfl
theorem p_194 : hput (Hp L xs m) 194 k v = Hp L xs (put m 194 k v) := hput_H (by decide) rfl
theorem n_194 : K7 0 (some (0, [194], (Lo, Hp L xs m))) = some (0, [60], (Lo, Hp L xs m)) := k7_H (a := 194) rfl (by decide) rfl rfl
theorem at_195 (h0 : 0 ≤ i) (h1 : i < 70000) : xat (Hp L xs m) 0 195 i = some (195, i.toNat) := at_H (a := 195) (n := 70000) rfl (by decide) rfl rfl h0 h1
theorem g_195 : (Hp L xs m).2.2.2 195 k = m 195 k := ov_mut (by decide) rfl
theorem p_195 : hput (Hp L xs m) 195 k v = Hp L xs (put m 195 k v) := hput_H (by decide) rfl
theorem n_195 : K7 0 (some (0, [195], (Lo, Hp L xs m))) = some (0, [70000], (Lo, Hp L xs m)) := k7_H (a := 195) rfl (by decide) rfl rfl
theorem at_196 (h0 : 0 ≤ i) (h1 : i < 36000) : xat (Hp L xs m) 0 196 i = some (196, i.toNat) := at_H (a := 196) (n := 36000) rfl (by decide) rfl rfl h0 h1
theorem g_196 : (Hp L xs m).2.2.2 196 k = m 196 k := ov_mut (by decide) rfl
theorem p_196 : hput (Hp L xs m) 196 k v = Hp L xs (put m 196 k v) := hput_H (by decide) rfl
theorem n_196 : K7 0 (some (0, [196], (Lo, Hp L xs m))) = some (0, [36000], (Lo, Hp L xs m)) := k7_H (a := 196) rfl (by decide) rfl rfl
theorem at_197 (h0 : 0 ≤ i) (h1 : i < 36000) : xat (Hp L xs m) 0 197 i = some (197, i.toNat) := at_H (a := 197) (n := 36000) rfl (by decide) rfl rfl h0 h1
theorem g_197 : (Hp L xs m).2.2.2 197 k = m 197 k := ov_mut (by decide) rfl
theorem p_197 : hput (Hp L xs m) 197 k v = Hp L xs (put m 197 k v) := hput_H (by decide) rfl
theorem n_197 : K7 0 (some (0, [197], (Lo, Hp L xs m))) = some (0, [36000], (Lo, Hp L xs m)) := k7_H (a := 197) rfl (by decide) rfl rfl
theorem at_198 (h0 : 0 ≤ i) (h1 : i < 36000) : xat (Hp L xs m) 3 198 i = some (198, i.toNat) := at_H (a := 198) (n := 36000) rfl (by decide) rfl rfl h0 h1
theorem g_198 : (Hp L xs m).2.2.2 198 k = m 198 k := ov_mut (by decide) rfl
theorem p_198 : hput (Hp L xs m) 198 k v = Hp L xs (put m 198 k v) := hput_H (by decide) rfl
theorem n_198 : K7 3 (some (0, [198], (Lo, Hp L xs m))) = some (0, [36000], (Lo, Hp L xs m)) := k7_H (a := 198) rfl (by decide) rfl rfl
theorem at_199 (h0 : 0 ≤ i) (h1 : i < 36000) : xat (Hp L xs m) 0 199 i = some (199, i.toNat) := at_H (a := 199) (n := 36000) rfl (by decide) rfl rfl h0 h1
theorem g_199 : (Hp L xs m).2.2.2 199 k = m 199 k := ov_mut (by decide) rfl
theorem p_199 : hput (Hp L xs m) 199 k v = Hp L xs (put m 199 k v) := hput_H (by decide) rfl
theorem n_199 : K7 0 (some (0, [199], (Lo, Hp L xs m))) = some (0, [36000], (Lo, Hp L xs m)) := k7_H (a := 199) rfl (by decide) rfl rfl
theorem at_200 (h0 : 0 ≤ i) (h1 : i < 36000) : xat (Hp L xs m) 0 200 i = some (200, i.toNat) := at_H (a := 200) (n := 36000) rfl (by decide) rfl rfl h0 h1
theorem g_200 : (Hp L xs m).2.2.2 200 k = m 200 k := ov_mut (by decide) rfl
theorem p_200 : hput (Hp L xs m) 200 k v = Hp L xs (put m 200 k v) := hput_H (by decide) rfl
theorem n_200 : K7 0 (some (0, [200], (Lo, Hp L xs m))) = some (0, [36000], (Lo, Hp L xs m)) := k7_H (a := 200) rfl (by decide) rfl rfl
theorem at_201 (h0 : 0 ≤ i) (h1 : i < 9000) : xat (Hp L xs m) 0 201 i = some (201, i.toNat) := at_H (a := 201) (n := 9000) rfl (by decide) rfl rfl h0 h1
theorem g_201 : (Hp L xs m).2.2.2 201 k = m 201 k := ov_mut (by decide) rfl
theorem p_201 : hput (Hp L xs m) 201 k v = Hp L xs (put m 201 k v) := hput_H (by decide) rfl
theorem n_201 : K7 0 (some (0, [201], (Lo, Hp L xs m))) = some (0, [9000], (Lo, Hp L xs m)) := k7_H (a := 201) rfl (by decide) rfl rfl
theorem at_202 (h0 : 0 ≤ i) (h1 : i < 9000) : xat (Hp L xs m) 0 202 i = some (202, i.toNat) := at_H (a := 202) (n := 9000) rfl (by decide) rfl rfl h0 h1
theorem g_202 : (Hp L xs m).2.2.2 202 k = m 202 k := ov_mut (by decide) rfl
theorem p_202 : hput (Hp L xs m) 202 k v = Hp L xs (put m 202 k v) := hput_H (by decide) rfl
theorem n_202 : K7 0 (some (0, [202], (Lo, Hp L xs m))) = some (0, [9000], (Lo, Hp L xs m)) := k7_H (a := 202) rfl (by decide) rfl rfl
theorem at_203 (h0 : 0 ≤ i) (h1 : i < 9000) : xat (Hp L xs m) 0 203 i = some (203, i.toNat) := at_H (a := 203) (n := 9000) rfl (by decide) rfl rfl h0 h1
theorem g_203 : (Hp L xs m).2.2.2 203 k = m 203 k := ov_mut (by decide) rfl
theorem p_203 : hput (Hp L xs m) 203 k v = Hp L xs (put m 203 k v) := hput_H (by decide) rfl
theorem n_203 : K7 0 (some (0, [203], (Lo, Hp L xs m))) = some (0, [9000], (Lo, Hp L xs m)) := k7_H (a := 203) rfl (by decide) rfl rfl
theorem at_204 (h0 : 0 ≤ i) (h1 : i < 196) : xat (Hp L xs m) 0 204 i = some (204, i.toNat) := at_H (a := 204) (n := 196) rfl (by decide) rfl rfl h0 h1
theorem g_204 : (Hp L xs m).2.2.2 204 k = m 204 k := ov_mut (by decide) rfl
theorem p_204 : hput (Hp L xs m) 204 k v = Hp L xs (put m 204 k v) := hput_H (by decide) rfl
theorem n_204 : K7 0 (some (0, [204], (Lo, Hp L xs m))) = some (0, [196], (Lo, Hp L xs m)) := k7_H (a := 204) rfl (by decide) rfl rfl
theorem at_205 (h0 : 0 ≤ i) (h1 : i < 16) : xat (Hp L xs m) 0 205 i = some (205, i.toNat) := at_H (a := 205) (n := 16) rfl (by decide) rfl rfl h0 h1
theorem g_205 : (Hp L xs m).2.2.2 205 k = m 205 k := ov_mut (by decide) rfl
theorem p_205 : hput (Hp L xs m) 205 k v = Hp L xs (put m 205 k v) := hput_H (by decide) rfl
theorem n_205 : K7 0 (some (0, [205], (Lo, Hp L xs m))) = some (0, [16], (Lo, Hp L xs m)) := k7_H (a := 205) rfl (by decide) rfl rfl
theorem at_206 (h0 : 0 ≤ i) (h1 : i < 8192) : xat (Hp L xs m) 0 206 i = some (206, i.toNat) := at_H (a := 206) (n := 8192) rfl (by decide) rfl rfl h0 h1
theorem g_206 : (Hp L xs m).2.2.2 206 k = m 206 k := ov_mut (by decide) rfl
theorem p_206 : hput (Hp L xs m) 206 k v = Hp L xs (put m 206 k v) := hput_H (by decide) rfl
theorem n_206 : K7 0 (some (0, [206], (Lo, Hp L xs m))) = some (0, [8192], (Lo, Hp L xs m)) := k7_H (a := 206) rfl (by decide) rfl rfl
theorem at_207 (h0 : 0 ≤ i) (h1 : i < 8) : xat (Hp L xs m) 0 207 i = some (207, i.toNat) := at_H (a := 207) (n := 8) rfl (by decide) rfl rfl h0 h1
theorem g_207 : (Hp L xs m).2.2.2 207 k = m 207 k := ov_mut (by decide) rfl
theorem p_207 : hput (Hp L xs m) 207 k v = Hp L xs (put m 207 k v) := hput_H (by decide) rfl
theorem n_207 : K7 0 (some (0, [207], (Lo, Hp L xs m))) = some (0, [8], (Lo, Hp L xs m)) := k7_H (a := 207) rfl (by decide) rfl rfl
theorem at_208 (h0 : 0 ≤ i) (h1 : i < 200) : xat (Hp L xs m) 0 208 i = some (208, i.toNat) := at_H (a := 208) (n := 200) rfl (by decide) rfl rfl h0 h1
theorem g_208 : (Hp L xs m).2.2.2 208 k = m 208 k := ov_mut (by decide) rfl
theorem p_208 : hput (Hp L xs m) 208 k v = Hp L xs (put m 208 k v) := hput_H (by decide) rfl
theorem n_208 : K7 0 (some (0, [208], (Lo, Hp L xs m))) = some (0, [200], (Lo, Hp L xs m)) := k7_H (a := 208) rfl (by decide) rfl rfl
theorem at_209 (h0 : 0 ≤ i) (h1 : i < 500) : xat (Hp L xs m) 0 209 i = some (209, i.toNat) := at_H (a := 209) (n := 500) rfl (by decide) rfl rfl h0 h1
theorem g_209 : (Hp L xs m).2.2.2 209 k = m 209 k := ov_mut (by decide) rfl
theorem p_209 : hput (Hp L xs m) 209 k v = Hp L xs (put m 209 k v) := hput_H (by decide) rfl
theorem n_209 : K7 0 (some (0, [209], (Lo, Hp L xs m))) = some (0, [500], (Lo, Hp L xs m)) := k7_H (a := 209) rfl (by decide) rfl rfl
theorem at_210 (h0 : 0 ≤ i) (h1 : i < 30000) : xat (Hp L xs m) 0 210 i = some (210, i.toNat) := at_H (a := 210) (n := 30000) rfl (by decide) rfl rfl h0 h1
theorem g_210 : (Hp L xs m).2.2.2 210 k = m 210 k := ov_mut (by decide) rfl
theorem p_210 : hput (Hp L xs m) 210 k v = Hp L xs (put m 210 k v) := hput_H (by decide) rfl
theorem n_210 : K7 0 (some (0, [210], (Lo, Hp L xs m))) = some (0, [30000], (Lo, Hp L xs m)) := k7_H (a := 210) rfl (by decide) rfl rfl
theorem at_211 (h0 : 0 ≤ i) (h1 : i < 4000) : xat (Hp L xs m) 0 211 i = some (211, i.toNat) := at_H (a := 211) (n := 4000) rfl (by decide) rfl rfl h0 h1
theorem g_211 : (Hp L xs m).2.2.2 211 k = m 211 k := ov_mut (by decide) rfl
theorem p_211 : hput (Hp L xs m) 211 k v = Hp L xs (put m 211 k v) := hput_H (by decide) rfl
theorem n_211 : K7 0 (some (0, [211], (Lo, Hp L xs m))) = some (0, [4000], (Lo, Hp L xs m)) := k7_H (a := 211) rfl (by decide) rfl rfl
theorem at_212 (h0 : 0 ≤ i) (h1 : i < 4000) : xat (Hp L xs m) 0 212 i = some (212, i.toNat) := at_H (a := 212) (n := 4000) rfl (by decide) rfl rfl h0 h1
theorem g_212 : (Hp L xs m).2.2.2 212 k = m 212 k := ov_mut (by decide) rfl
theorem p_212 : hput (Hp L xs m) 212 k v = Hp L xs (put m 212 k v) := hput_H (by decide) rfl
theorem n_212 : K7 0 (some (0, [212], (Lo, Hp L xs m))) = some (0, [4000], (Lo, Hp L xs m)) := k7_H (a := 212) rfl (by decide) rfl rfl
theorem at_213 (h0 : 0 ≤ i) (h1 : i < 30001) : xat (Hp L xs m) 0 213 i = some (213, i.toNat) := at_H (a := 213) (n := 30001) rfl (by decide) rfl rfl h0 h1
theorem g_213 : (Hp L xs m).2.2.2 213 k = m 213 k := ov_mut (by decide) rfl
theorem p_213 : hput (Hp L xs m) 213 k v = Hp L xs (put m 213 k v) := hput_H (by decide) rfl
theorem n_213 : K7 0 (some (0, [213], (Lo, Hp L xs m))) = some (0, [30001], (Lo, Hp L xs m)) := k7_H (a := 213) rfl (by decide) rfl rfl
theorem at_214 (h0 : 0 ≤ i) (h1 : i < 60) : xat (Hp L xs m) 0 214 i = some (214, i.toNat) := at_H (a := 214) (n := 60) rfl (by decide) rfl rfl h0 h1
theorem g_214 : (Hp L xs m).2.2.2 214 k = m 214 k := ov_mut (by decide) rfl
theorem p_214 : hput (Hp L xs m) 214 k v = Hp L xs (put m 214 k v) := hput_H (by decide) rfl
theorem n_214 : K7 0 (some (0, [214], (Lo, Hp L xs m))) = some (0, [60], (Lo, Hp L xs m)) := k7_H (a := 214) rfl (by decide) rfl rfl
theorem at_215 (h0 : 0 ≤ i) (h1 : i < 500) : xat (Hp L xs m) 0 215 i = some (215, i.toNat) := at_H (a := 215) (n := 500) rfl (by decide) rfl rfl h0 h1
theorem g_215 : (Hp L xs m).2.2.2 215 k = m 215 k := ov_mut (by decide) rfl
theorem p_215 : hput (Hp L xs m) 215 k v = Hp L xs (put m 215 k v) := hput_H (by decide) rfl
theorem n_215 : K7 0 (some (0, [215], (Lo, Hp L xs m))) = some (0, [500], (Lo, Hp L xs m)) := k7_H (a := 215) rfl (by decide) rfl rfl
theorem at_216 (h0 : 0 ≤ i) (h1 : i < 9000) : xat (Hp L xs m) 3 216 i = some (216, i.toNat) := at_H (a := 216) (n := 9000) rfl (by decide) rfl rfl h0 h1
theorem g_216 : (Hp L xs m).2.2.2 216 k = m 216 k := ov_mut (by decide) rfl
theorem p_216 : hput (Hp L xs m) 216 k v = Hp L xs (put m 216 k v) := hput_H (by decide) rfl
theorem n_216 : K7 3 (some (0, [216], (Lo, Hp L xs m))) = some (0, [9000], (Lo, Hp L xs m)) := k7_H (a := 216) rfl (by decide) rfl rfl
theorem at_1 (h0 : 0 ≤ i) (h1 : i < 120) : xat (Hp L xs m) 0 1 i = some (1, i.toNat) := at_H (a := 1) (n := 120) rfl (by decide) rfl rfl h0 h1
theorem g_1 : (Hp L xs m).2.2.2 1 k = tv_1.getD k 0 := rfl
theorem n_1 : K7 0 (some (0, [1], (Lo, Hp L xs m))) = some (0, [120], (Lo, Hp L xs m)) := k7_H (a := 1) rfl (by decide) rfl rfl
theorem at_2 (h0 : 0 ≤ i) (h1 : i < 176) : xat (Hp L xs m) 0 2 i = some (2, i.toNat) := at_H (a := 2) (n := 176) rfl (by decide) rfl rfl h0 h1
theorem g_2 : (Hp L xs m).2.2.2 2 k = tv_2.getD k 0 := rfl
theorem n_2 : K7 0 (some (0, [2], (Lo, Hp L xs m))) = some (0, [176], (Lo, Hp L xs m)) := k7_H (a := 2) rfl (by decide) rfl rfl
theorem at_3 (h0 : 0 ≤ i) (h1 : i < 16) : xat (Hp L xs m) 0 3 i = some (3, i.toNat) := at_H (a := 3) (n := 16) rfl (by decide) rfl rfl h0 h1
theorem g_3 : (Hp L xs m).2.2.2 3 k = tv_3.getD k 0 := rfl
theorem n_3 : K7 0 (some (0, [3], (Lo, Hp L xs m))) = some (0, [16], (Lo, Hp L xs m)) := k7_H (a := 3) rfl (by decide) rfl rfl
theorem at_4 (h0 : 0 ≤ i) (h1 : i < 27) : xat (Hp L xs m) 0 4 i = some (4, i.toNat) := at_H (a := 4) (n := 27) rfl (by decide) rfl rfl h0 h1
theorem g_4 : (Hp L xs m).2.2.2 4 k = tv_4.getD k 0 := rfl
theorem n_4 : K7 0 (some (0, [4], (Lo, Hp L xs m))) = some (0, [27], (Lo, Hp L xs m)) := k7_H (a := 4) rfl (by decide) rfl rfl
theorem at_5 (h0 : 0 ≤ i) (h1 : i < 27) : xat (Hp L xs m) 0 5 i = some (5, i.toNat) := at_H (a := 5) (n := 27) rfl (by decide) rfl rfl h0 h1
theorem g_5 : (Hp L xs m).2.2.2 5 k = tv_5.getD k 0 := rfl
theorem n_5 : K7 0 (some (0, [5], (Lo, Hp L xs m))) = some (0, [27], (Lo, Hp L xs m)) := k7_H (a := 5) rfl (by decide) rfl rfl
theorem put_ss {m : Mem} {a k a' k' : Nat} {v : Int} : put m a k v a' k' = if a' = a then (if k' = k then v else m a' k') else m a' k' := (rfl)
theorem row_ss {m : Mem} {a a' k' : Nat} {f : Nat → Int} : row m a f a' k' = if a' = a then f k' else m a' k' := (rfl)
theorem pft_v {c k : Nat} : pft c k = (ftL.getD c []).getD k 0 := (rfl)
end Shape2
section Entry
variable {L : Nat} {xs : Nat → Int32} {m : Mem} {F d : Nat} {h : xH} {a0 a1 a2 a3 a4 a5 a6 a7 a8 : Int}
theorem Cx_e {F d i : Nat} {vs : List Int} {h : xH} {nL : Nat} {ts : List Nat} {rc rt : Nat} {t : xT} (h1 : pmt i = some (nL, ts, rc, rt, t)) (h2 : vs.length = ts.length) (h3 : xrecv h rc vs = true) {Lo : xL} (h4 : xargs ts vs ++ List.replicate (nL - (xargs ts vs).length) (9, 0) = Lo) : Cx F (d + 1) i vs h = rK rt (Ev F d t 0 (Lo, h)) := by
  unfold Cx xcall
  rw [h1]
  simp only [h2, h3]
  rw [h4]
  rfl
theorem c_8 : Cx F (d + 1) 8 [a0, a1] h = rK 9 (Ev F d tr_8 0 ([(0, a0), (0, a1)], h)) := Cx_e (i := 8) rfl rfl rfl rfl
theorem c_9 : Cx F (d + 1) 9 [a0, a1, a2] h = rK 9 (Ev F d tr_9 0 ([(0, a0), (0, a1), (0, a2)], h)) := Cx_e (i := 9) rfl rfl rfl rfl
theorem c_10_83 : Cx F (d + 1) 10 [83, a1, a2, a3] (Hp L xs m) = rK 9 (Ev F d tr_10 0 ([(2, 83), (0, a1), (0, a2), (0, a3)], Hp L xs m)) := Cx_e (i := 10) rfl rfl rfl rfl
theorem c_10_93 : Cx F (d + 1) 10 [93, a1, a2, a3] (Hp L xs m) = rK 9 (Ev F d tr_10 0 ([(2, 93), (0, a1), (0, a2), (0, a3)], Hp L xs m)) := Cx_e (i := 10) rfl rfl rfl rfl
theorem c_11_83 : Cx F (d + 1) 11 [83, a1] (Hp L xs m) = rK 0 (Ev F d tr_11 0 ([(2, 83), (0, a1)], Hp L xs m)) := Cx_e (i := 11) rfl rfl rfl rfl
theorem c_11_93 : Cx F (d + 1) 11 [93, a1] (Hp L xs m) = rK 0 (Ev F d tr_11 0 ([(2, 93), (0, a1)], Hp L xs m)) := Cx_e (i := 11) rfl rfl rfl rfl
theorem c_12_83 : Cx F (d + 1) 12 [83, a1] (Hp L xs m) = rK 0 (Ev F d tr_12 0 ([(2, 83), (0, a1)], Hp L xs m)) := Cx_e (i := 12) rfl rfl rfl rfl
theorem c_12_93 : Cx F (d + 1) 12 [93, a1] (Hp L xs m) = rK 0 (Ev F d tr_12 0 ([(2, 93), (0, a1)], Hp L xs m)) := Cx_e (i := 12) rfl rfl rfl rfl
theorem c_13_83 : Cx F (d + 1) 13 [83, a1] (Hp L xs m) = rK 0 (Ev F d tr_13 0 ([(2, 83), (0, a1)], Hp L xs m)) := Cx_e (i := 13) rfl rfl rfl rfl
theorem c_13_93 : Cx F (d + 1) 13 [93, a1] (Hp L xs m) = rK 0 (Ev F d tr_13 0 ([(2, 93), (0, a1)], Hp L xs m)) := Cx_e (i := 13) rfl rfl rfl rfl
theorem c_14_83 : Cx F (d + 1) 14 [83, a1] (Hp L xs m) = rK 0 (Ev F d tr_14 0 ([(2, 83), (0, a1)], Hp L xs m)) := Cx_e (i := 14) rfl rfl rfl rfl
theorem c_14_93 : Cx F (d + 1) 14 [93, a1] (Hp L xs m) = rK 0 (Ev F d tr_14 0 ([(2, 93), (0, a1)], Hp L xs m)) := Cx_e (i := 14) rfl rfl rfl rfl
theorem c_15_83 : Cx F (d + 1) 15 [83, a1] (Hp L xs m) = rK 0 (Ev F d tr_15 0 ([(2, 83), (0, a1)], Hp L xs m)) := Cx_e (i := 15) rfl rfl rfl rfl
theorem c_15_93 : Cx F (d + 1) 15 [93, a1] (Hp L xs m) = rK 0 (Ev F d tr_15 0 ([(2, 93), (0, a1)], Hp L xs m)) := Cx_e (i := 15) rfl rfl rfl rfl
theorem c_18 : Cx F (d + 1) 18 [67] (Hp L xs m) = rK 3 (Ev F d tr_18 0 ([(2, 67), (9, 0)], Hp L xs m)) := Cx_e (i := 18) rfl rfl rfl rfl
theorem c_19 : Cx F (d + 1) 19 [67] (Hp L xs m) = rK 0 (Ev F d tr_19 0 ([(2, 67)], Hp L xs m)) := Cx_e (i := 19) rfl rfl rfl rfl
theorem c_20 : Cx F (d + 1) 20 [67, a1] (Hp L xs m) = rK 3 (Ev F d tr_20 0 ([(2, 67), (0, a1)], Hp L xs m)) := Cx_e (i := 20) rfl rfl rfl rfl
theorem c_21 : Cx F (d + 1) 21 [67, a1, a2] (Hp L xs m) = rK 3 (Ev F d tr_21 0 ([(2, 67), (0, a1), (0, a2)], Hp L xs m)) := Cx_e (i := 21) rfl rfl rfl rfl
theorem c_22 : Cx F (d + 1) 22 [67] (Hp L xs m) = rK 3 (Ev F d tr_22 0 ([(2, 67)], Hp L xs m)) := Cx_e (i := 22) rfl rfl rfl rfl
theorem c_23 : Cx F (d + 1) 23 [67] (Hp L xs m) = rK 3 (Ev F d tr_23 0 ([(2, 67), (9, 0)], Hp L xs m)) := Cx_e (i := 23) rfl rfl rfl rfl
theorem c_24 : Cx F (d + 1) 24 [67, a1] (Hp L xs m) = rK 3 (Ev F d tr_24 0 ([(2, 67), (0, a1), (9, 0), (9, 0)], Hp L xs m)) := Cx_e (i := 24) rfl rfl rfl rfl
theorem c_25 : Cx F (d + 1) 25 [67, a1] (Hp L xs m) = rK 3 (Ev F d tr_25 0 ([(2, 67), (0, a1), (9, 0)], Hp L xs m)) := Cx_e (i := 25) rfl rfl rfl rfl
theorem c_26 : Cx F (d + 1) 26 [67, a1] (Hp L xs m) = rK 3 (Ev F d tr_26 0 ([(2, 67), (0, a1)], Hp L xs m)) := Cx_e (i := 26) rfl rfl rfl rfl
theorem c_27 : Cx F (d + 1) 27 [67, a1] (Hp L xs m) = rK 3 (Ev F d tr_27 0 ([(2, 67), (0, a1), (9, 0)], Hp L xs m)) := Cx_e (i := 27) rfl rfl rfl rfl
theorem c_28 : Cx F (d + 1) 28 [67, a1] (Hp L xs m) = rK 3 (Ev F d tr_28 0 ([(2, 67), (0, a1)], Hp L xs m)) := Cx_e (i := 28) rfl rfl rfl rfl
theorem c_29 : Cx F (d + 1) 29 [67, a1] (Hp L xs m) = rK 3 (Ev F d tr_29 0 ([(2, 67), (0, a1)], Hp L xs m)) := Cx_e (i := 29) rfl rfl rfl rfl
theorem c_30 : Cx F (d + 1) 30 [67, a1] (Hp L xs m) = rK 3 (Ev F d tr_30 0 ([(2, 67), (0, a1), (9, 0)], Hp L xs m)) := Cx_e (i := 30) rfl rfl rfl rfl
theorem c_31 : Cx F (d + 1) 31 [67, a1] (Hp L xs m) = rK 3 (Ev F d tr_31 0 ([(2, 67), (0, a1), (9, 0)], Hp L xs m)) := Cx_e (i := 31) rfl rfl rfl rfl
theorem c_32 : Cx F (d + 1) 32 [67, a1] (Hp L xs m) = rK 3 (Ev F d tr_32 0 ([(2, 67), (0, a1)], Hp L xs m)) := Cx_e (i := 32) rfl rfl rfl rfl
theorem c_33 : Cx F (d + 1) 33 [67, a1] (Hp L xs m) = rK 3 (Ev F d tr_33 0 ([(2, 67), (0, a1)], Hp L xs m)) := Cx_e (i := 33) rfl rfl rfl rfl
theorem c_34 : Cx F (d + 1) 34 [67, a1] (Hp L xs m) = rK 3 (Ev F d tr_34 0 ([(2, 67), (0, a1), (9, 0)], Hp L xs m)) := Cx_e (i := 34) rfl rfl rfl rfl
theorem c_36 : Cx F (d + 1) 36 [71, a1] (Hp L xs m) = rK 3 (Ev F d tr_36 0 ([(2, 71), (2, a1), (9, 0), (9, 0)], Hp L xs m)) := Cx_e (i := 36) rfl rfl rfl rfl
theorem c_37 : Cx F (d + 1) 37 [71] (Hp L xs m) = rK 9 (Ev F d tr_37 0 ([(2, 71)], Hp L xs m)) := Cx_e (i := 37) rfl rfl rfl rfl
theorem c_38 : Cx F (d + 1) 38 [71, a1] (Hp L xs m) = rK 9 (Ev F d tr_38 0 ([(2, 71), (2, a1), (9, 0)], Hp L xs m)) := Cx_e (i := 38) rfl rfl rfl rfl
theorem c_39 : Cx F (d + 1) 39 [71, a1, a2, a3, a4] (Hp L xs m) = rK 9 (Ev F d tr_39 0 ([(2, 71), (0, a1), (0, a2), (0, a3), (0, a4), (9, 0)], Hp L xs m)) := Cx_e (i := 39) rfl rfl rfl rfl
theorem c_40 : Cx F (d + 1) 40 [71, a1, a2] (Hp L xs m) = rK 9 (Ev F d tr_40 0 ([(2, 71), (0, a1), (0, a2)], Hp L xs m)) := Cx_e (i := 40) rfl rfl rfl rfl
theorem c_41 : Cx F (d + 1) 41 [71, a1, a2] (Hp L xs m) = rK 9 (Ev F d tr_41 0 ([(2, 71), (0, a1), (0, a2)], Hp L xs m)) := Cx_e (i := 41) rfl rfl rfl rfl
theorem c_42 : Cx F (d + 1) 42 [71, a1] (Hp L xs m) = rK 9 (Ev F d tr_42 0 ([(2, 71), (0, a1)], Hp L xs m)) := Cx_e (i := 42) rfl rfl rfl rfl
theorem c_43 : Cx F (d + 1) 43 [71, a1] (Hp L xs m) = rK 9 (Ev F d tr_43 0 ([(2, 71), (0, a1)], Hp L xs m)) := Cx_e (i := 43) rfl rfl rfl rfl
theorem c_44 : Cx F (d + 1) 44 [71, a1] (Hp L xs m) = rK 9 (Ev F d tr_44 0 ([(2, 71), (0, a1)], Hp L xs m)) := Cx_e (i := 44) rfl rfl rfl rfl
theorem c_45 : Cx F (d + 1) 45 [71] (Hp L xs m) = rK 3 (Ev F d tr_45 0 ([(2, 71)], Hp L xs m)) := Cx_e (i := 45) rfl rfl rfl rfl
theorem c_46 : Cx F (d + 1) 46 [71] (Hp L xs m) = rK 0 (Ev F d tr_46 0 ([(2, 71)], Hp L xs m)) := Cx_e (i := 46) rfl rfl rfl rfl
theorem c_47 : Cx F (d + 1) 47 [71] (Hp L xs m) = rK 9 (Ev F d tr_47 0 ([(2, 71), (9, 0), (9, 0)], Hp L xs m)) := Cx_e (i := 47) rfl rfl rfl rfl
theorem c_48 : Cx F (d + 1) 48 [71, a1] (Hp L xs m) = rK 9 (Ev F d tr_48 0 ([(2, 71), (0, a1)], Hp L xs m)) := Cx_e (i := 48) rfl rfl rfl rfl
theorem c_49 : Cx F (d + 1) 49 [71] (Hp L xs m) = rK 9 (Ev F d tr_49 0 ([(2, 71)], Hp L xs m)) := Cx_e (i := 49) rfl rfl rfl rfl
theorem c_50 : Cx F (d + 1) 50 [71, a1] (Hp L xs m) = rK 9 (Ev F d tr_50 0 ([(2, 71), (0, a1), (9, 0)], Hp L xs m)) := Cx_e (i := 50) rfl rfl rfl rfl
theorem c_51 : Cx F (d + 1) 51 [71, a1, a2] (Hp L xs m) = rK 9 (Ev F d tr_51 0 ([(2, 71), (0, a1), (0, a2)], Hp L xs m)) := Cx_e (i := 51) rfl rfl rfl rfl
theorem c_52 : Cx F (d + 1) 52 [71, a1] (Hp L xs m) = rK 0 (Ev F d tr_52 0 ([(2, 71), (0, a1)], Hp L xs m)) := Cx_e (i := 52) rfl rfl rfl rfl
theorem c_53 : Cx F (d + 1) 53 [71, a1] (Hp L xs m) = rK 9 (Ev F d tr_53 0 ([(2, 71), (0, a1)], Hp L xs m)) := Cx_e (i := 53) rfl rfl rfl rfl
theorem c_54 : Cx F (d + 1) 54 [71, a1] (Hp L xs m) = rK 9 (Ev F d tr_54 0 ([(2, 71), (0, a1)], Hp L xs m)) := Cx_e (i := 54) rfl rfl rfl rfl
theorem c_55 : Cx F (d + 1) 55 [71, a1] (Hp L xs m) = rK 9 (Ev F d tr_55 0 ([(2, 71), (0, a1)], Hp L xs m)) := Cx_e (i := 55) rfl rfl rfl rfl
theorem c_56 : Cx F (d + 1) 56 [71] (Hp L xs m) = rK 9 (Ev F d tr_56 0 ([(2, 71)], Hp L xs m)) := Cx_e (i := 56) rfl rfl rfl rfl
theorem c_57 : Cx F (d + 1) 57 [71] (Hp L xs m) = rK 9 (Ev F d tr_57 0 ([(2, 71)], Hp L xs m)) := Cx_e (i := 57) rfl rfl rfl rfl
theorem c_58 : Cx F (d + 1) 58 [71] (Hp L xs m) = rK 9 (Ev F d tr_58 0 ([(2, 71)], Hp L xs m)) := Cx_e (i := 58) rfl rfl rfl rfl
theorem c_59 : Cx F (d + 1) 59 [71] (Hp L xs m) = rK 9 (Ev F d tr_59 0 ([(2, 71)], Hp L xs m)) := Cx_e (i := 59) rfl rfl rfl rfl
theorem c_60 : Cx F (d + 1) 60 [71] (Hp L xs m) = rK 9 (Ev F d tr_60 0 ([(2, 71)], Hp L xs m)) := Cx_e (i := 60) rfl rfl rfl rfl
theorem c_61 : Cx F (d + 1) 61 [71] (Hp L xs m) = rK 9 (Ev F d tr_61 0 ([(2, 71)], Hp L xs m)) := Cx_e (i := 61) rfl rfl rfl rfl
theorem c_62 : Cx F (d + 1) 62 [71, a1] (Hp L xs m) = rK 9 (Ev F d tr_62 0 ([(2, 71), (0, a1)], Hp L xs m)) := Cx_e (i := 62) rfl rfl rfl rfl
theorem c_63 : Cx F (d + 1) 63 [71] (Hp L xs m) = rK 9 (Ev F d tr_63 0 ([(2, 71)], Hp L xs m)) := Cx_e (i := 63) rfl rfl rfl rfl
theorem c_64 : Cx F (d + 1) 64 [71] (Hp L xs m) = rK 9 (Ev F d tr_64 0 ([(2, 71)], Hp L xs m)) := Cx_e (i := 64) rfl rfl rfl rfl
theorem c_65 : Cx F (d + 1) 65 [71, a1] (Hp L xs m) = rK 9 (Ev F d tr_65 0 ([(2, 71), (0, a1)], Hp L xs m)) := Cx_e (i := 65) rfl rfl rfl rfl
theorem c_66 : Cx F (d + 1) 66 [71, a1] (Hp L xs m) = rK 9 (Ev F d tr_66 0 ([(2, 71), (0, a1), (9, 0), (9, 0)], Hp L xs m)) := Cx_e (i := 66) rfl rfl rfl rfl
theorem c_67 : Cx F (d + 1) 67 [a0] h = rK 0 (Ev F d tr_67 0 ([(0, a0)], h)) := Cx_e (i := 67) rfl rfl rfl rfl
theorem c_68 : Cx F (d + 1) 68 [a0, a1] h = rK 0 (Ev F d tr_68 0 ([(0, a0), (0, a1)], h)) := Cx_e (i := 68) rfl rfl rfl rfl
theorem c_69 : Cx F (d + 1) 69 [78, a1] (Hp L xs m) = rK 3 (Ev F d tr_69 0 ([(2, 78), (0, a1)], Hp L xs m)) := Cx_e (i := 69) rfl rfl rfl rfl
theorem c_70 : Cx F (d + 1) 70 [78] (Hp L xs m) = rK 9 (Ev F d tr_70 0 ([(2, 78)], Hp L xs m)) := Cx_e (i := 70) rfl rfl rfl rfl
theorem c_71 : Cx F (d + 1) 71 [78] (Hp L xs m) = rK 0 (Ev F d tr_71 0 ([(2, 78)], Hp L xs m)) := Cx_e (i := 71) rfl rfl rfl rfl
theorem c_72 : Cx F (d + 1) 72 [78, a1] (Hp L xs m) = rK 9 (Ev F d tr_72 0 ([(2, 78), (2, a1)], Hp L xs m)) := Cx_e (i := 72) rfl rfl rfl rfl
theorem c_73 : Cx F (d + 1) 73 [78] (Hp L xs m) = rK 3 (Ev F d tr_73 0 ([(2, 78)], Hp L xs m)) := Cx_e (i := 73) rfl rfl rfl rfl
theorem c_74 : Cx F (d + 1) 74 [78, a1] (Hp L xs m) = rK 0 (Ev F d tr_74 0 ([(2, 78), (0, a1), (9, 0)], Hp L xs m)) := Cx_e (i := 74) rfl rfl rfl rfl
theorem c_75 : Cx F (d + 1) 75 [78] (Hp L xs m) = rK 0 (Ev F d tr_75 0 ([(2, 78)], Hp L xs m)) := Cx_e (i := 75) rfl rfl rfl rfl
theorem c_76 : Cx F (d + 1) 76 [78] (Hp L xs m) = rK 9 (Ev F d tr_76 0 ([(2, 78)], Hp L xs m)) := Cx_e (i := 76) rfl rfl rfl rfl
theorem c_77 : Cx F (d + 1) 77 [78] (Hp L xs m) = rK 9 (Ev F d tr_77 0 ([(2, 78)], Hp L xs m)) := Cx_e (i := 77) rfl rfl rfl rfl
theorem c_78 : Cx F (d + 1) 78 [78] (Hp L xs m) = rK 9 (Ev F d tr_78 0 ([(2, 78), (9, 0), (9, 0), (9, 0)], Hp L xs m)) := Cx_e (i := 78) rfl rfl rfl rfl
theorem c_79 : Cx F (d + 1) 79 [78, a1] (Hp L xs m) = rK 9 (Ev F d tr_79 0 ([(2, 78), (0, a1)], Hp L xs m)) := Cx_e (i := 79) rfl rfl rfl rfl
theorem c_80 : Cx F (d + 1) 80 [78, a1, a2, a3, a4] (Hp L xs m) = rK 0 (Ev F d tr_80 0 ([(2, 78), (0, a1), (0, a2), (0, a3), (0, a4)], Hp L xs m)) := Cx_e (i := 80) rfl rfl rfl rfl
theorem c_81 : Cx F (d + 1) 81 [78, a1] (Hp L xs m) = rK 9 (Ev F d tr_81 0 ([(2, 78), (2, a1), (9, 0)], Hp L xs m)) := Cx_e (i := 81) rfl rfl rfl rfl
theorem c_82 : Cx F (d + 1) 82 [a0, a1, a2, a3] h = rK 9 (Ev F d tr_82 0 ([(2, a0), (0, a1), (0, a2), (0, a3), (9, 0)], h)) := Cx_e (i := 82) rfl rfl rfl rfl
theorem c_85 : Cx F (d + 1) 85 [68, a1] (Hp L xs m) = rK 9 (Ev F d tr_85 0 ([(2, 68), (2, a1), (9, 0)], Hp L xs m)) := Cx_e (i := 85) rfl rfl rfl rfl
theorem c_86 : Cx F (d + 1) 86 [68] (Hp L xs m) = rK 0 (Ev F d tr_86 0 ([(2, 68)], Hp L xs m)) := Cx_e (i := 86) rfl rfl rfl rfl
theorem c_87 : Cx F (d + 1) 87 [68] (Hp L xs m) = rK 0 (Ev F d tr_87 0 ([(2, 68)], Hp L xs m)) := Cx_e (i := 87) rfl rfl rfl rfl
theorem c_88 : Cx F (d + 1) 88 [68, a1] (Hp L xs m) = rK 9 (Ev F d tr_88 0 ([(2, 68), (0, a1)], Hp L xs m)) := Cx_e (i := 88) rfl rfl rfl rfl
theorem c_89 : Cx F (d + 1) 89 [68, a1] (Hp L xs m) = rK 0 (Ev F d tr_89 0 ([(2, 68), (0, a1)], Hp L xs m)) := Cx_e (i := 89) rfl rfl rfl rfl
theorem c_90 : Cx F (d + 1) 90 [68, a1, a2, a3] (Hp L xs m) = rK 9 (Ev F d tr_90 0 ([(2, 68), (0, a1), (0, a2), (0, a3)], Hp L xs m)) := Cx_e (i := 90) rfl rfl rfl rfl
theorem c_91 : Cx F (d + 1) 91 [68, a1] (Hp L xs m) = rK 9 (Ev F d tr_91 0 ([(2, 68), (0, a1)], Hp L xs m)) := Cx_e (i := 91) rfl rfl rfl rfl
theorem c_92 : Cx F (d + 1) 92 [68, a1] (Hp L xs m) = rK 9 (Ev F d tr_92 0 ([(2, 68), (0, a1), (9, 0)], Hp L xs m)) := Cx_e (i := 92) rfl rfl rfl rfl
theorem c_93 : Cx F (d + 1) 93 [68, a1] (Hp L xs m) = rK 9 (Ev F d tr_93 0 ([(2, 68), (0, a1)], Hp L xs m)) := Cx_e (i := 93) rfl rfl rfl rfl
theorem c_94 : Cx F (d + 1) 94 [68, a1, a2] (Hp L xs m) = rK 0 (Ev F d tr_94 0 ([(2, 68), (0, a1), (0, a2), (9, 0)], Hp L xs m)) := Cx_e (i := 94) rfl rfl rfl rfl
theorem c_95 : Cx F (d + 1) 95 [68] (Hp L xs m) = rK 9 (Ev F d tr_95 0 ([(2, 68), (9, 0), (9, 0)], Hp L xs m)) := Cx_e (i := 95) rfl rfl rfl rfl
theorem c_96 : Cx F (d + 1) 96 [68, a1, a2] (Hp L xs m) = rK 9 (Ev F d tr_96 0 ([(2, 68), (0, a1), (0, a2), (9, 0)], Hp L xs m)) := Cx_e (i := 96) rfl rfl rfl rfl
theorem c_97 : Cx F (d + 1) 97 [68] (Hp L xs m) = rK 9 (Ev F d tr_97 0 ([(2, 68), (9, 0), (9, 0)], Hp L xs m)) := Cx_e (i := 97) rfl rfl rfl rfl
theorem c_98 : Cx F (d + 1) 98 [68, a1] (Hp L xs m) = rK 9 (Ev F d tr_98 0 ([(2, 68), (0, a1), (9, 0), (9, 0)], Hp L xs m)) := Cx_e (i := 98) rfl rfl rfl rfl
theorem c_99 : Cx F (d + 1) 99 [68, a1] (Hp L xs m) = rK 9 (Ev F d tr_99 0 ([(2, 68), (0, a1), (9, 0)], Hp L xs m)) := Cx_e (i := 99) rfl rfl rfl rfl
theorem c_100 : Cx F (d + 1) 100 [68, a1, a2] (Hp L xs m) = rK 9 (Ev F d tr_100 0 ([(2, 68), (0, a1), (0, a2), (9, 0)], Hp L xs m)) := Cx_e (i := 100) rfl rfl rfl rfl
theorem c_101 : Cx F (d + 1) 101 [68, a1] (Hp L xs m) = rK 9 (Ev F d tr_101 0 ([(2, 68), (0, a1), (9, 0), (9, 0)], Hp L xs m)) := Cx_e (i := 101) rfl rfl rfl rfl
theorem c_102 : Cx F (d + 1) 102 [68, a1] (Hp L xs m) = rK 9 (Ev F d tr_102 0 ([(2, 68), (0, a1), (9, 0), (9, 0)], Hp L xs m)) := Cx_e (i := 102) rfl rfl rfl rfl
theorem c_103 : Cx F (d + 1) 103 [68, a1] (Hp L xs m) = rK 9 (Ev F d tr_103 0 ([(2, 68), (0, a1), (9, 0), (9, 0), (9, 0), (9, 0), (9, 0)], Hp L xs m)) := Cx_e (i := 103) rfl rfl rfl rfl
theorem c_104 : Cx F (d + 1) 104 [68] (Hp L xs m) = rK 9 (Ev F d tr_104 0 ([(2, 68), (9, 0), (9, 0), (9, 0), (9, 0)], Hp L xs m)) := Cx_e (i := 104) rfl rfl rfl rfl
theorem c_105 : Cx F (d + 1) 105 [68, a1] (Hp L xs m) = rK 9 (Ev F d tr_105 0 ([(2, 68), (0, a1), (9, 0)], Hp L xs m)) := Cx_e (i := 105) rfl rfl rfl rfl
theorem c_106 : Cx F (d + 1) 106 [68, a1] (Hp L xs m) = rK 9 (Ev F d tr_106 0 ([(2, 68), (0, a1), (9, 0), (9, 0)], Hp L xs m)) := Cx_e (i := 106) rfl rfl rfl rfl
theorem c_107 : Cx F (d + 1) 107 [68, a1] (Hp L xs m) = rK 9 (Ev F d tr_107 0 ([(2, 68), (0, a1), (9, 0), (9, 0)], Hp L xs m)) := Cx_e (i := 107) rfl rfl rfl rfl
theorem c_108 : Cx F (d + 1) 108 [68, a1] (Hp L xs m) = rK 9 (Ev F d tr_108 0 ([(2, 68), (0, a1), (9, 0)], Hp L xs m)) := Cx_e (i := 108) rfl rfl rfl rfl
theorem c_109 : Cx F (d + 1) 109 [68, a1] (Hp L xs m) = rK 9 (Ev F d tr_109 0 ([(2, 68), (0, a1)], Hp L xs m)) := Cx_e (i := 109) rfl rfl rfl rfl
theorem c_110 : Cx F (d + 1) 110 [68, a1, a2] (Hp L xs m) = rK 9 (Ev F d tr_110 0 ([(2, 68), (0, a1), (0, a2), (9, 0)], Hp L xs m)) := Cx_e (i := 110) rfl rfl rfl rfl
theorem c_111 : Cx F (d + 1) 111 [68, a1, a2] (Hp L xs m) = rK 9 (Ev F d tr_111 0 ([(2, 68), (0, a1), (0, a2), (9, 0), (9, 0), (9, 0)], Hp L xs m)) := Cx_e (i := 111) rfl rfl rfl rfl
theorem c_112 : Cx F (d + 1) 112 [73, a1] (Hp L xs m) = rK 0 (Ev F d tr_112 0 ([(2, 73), (0, a1)], Hp L xs m)) := Cx_e (i := 112) rfl rfl rfl rfl
theorem c_113 : Cx F (d + 1) 113 [73, a1, a2] (Hp L xs m) = rK 0 (Ev F d tr_113 0 ([(2, 73), (0, a1), (0, a2)], Hp L xs m)) := Cx_e (i := 113) rfl rfl rfl rfl
theorem c_114 : Cx F (d + 1) 114 [73, a1] (Hp L xs m) = rK 0 (Ev F d tr_114 0 ([(2, 73), (0, a1)], Hp L xs m)) := Cx_e (i := 114) rfl rfl rfl rfl
theorem c_115 : Cx F (d + 1) 115 [73, a1, a2] (Hp L xs m) = rK 0 (Ev F d tr_115 0 ([(2, 73), (0, a1), (0, a2)], Hp L xs m)) := Cx_e (i := 115) rfl rfl rfl rfl
theorem c_116 : Cx F (d + 1) 116 [73, a1, a2] (Hp L xs m) = rK 0 (Ev F d tr_116 0 ([(2, 73), (0, a1), (0, a2)], Hp L xs m)) := Cx_e (i := 116) rfl rfl rfl rfl
theorem c_117 : Cx F (d + 1) 117 [73, a1, a2] (Hp L xs m) = rK 0 (Ev F d tr_117 0 ([(2, 73), (0, a1), (0, a2), (9, 0)], Hp L xs m)) := Cx_e (i := 117) rfl rfl rfl rfl
theorem c_118 : Cx F (d + 1) 118 [73, a1, a2, a3] (Hp L xs m) = rK 0 (Ev F d tr_118 0 ([(2, 73), (0, a1), (0, a2), (0, a3), (9, 0)], Hp L xs m)) := Cx_e (i := 118) rfl rfl rfl rfl
theorem c_119 : Cx F (d + 1) 119 [73, a1, a2, a3] (Hp L xs m) = rK 0 (Ev F d tr_119 0 ([(2, 73), (0, a1), (0, a2), (0, a3), (9, 0), (9, 0), (9, 0), (9, 0)], Hp L xs m)) := Cx_e (i := 119) rfl rfl rfl rfl
theorem c_120 : Cx F (d + 1) 120 [73, a1, a2, a3] (Hp L xs m) = rK 2 (Ev F d tr_120 0 ([(2, 73), (2, a1), (2, a2), (0, a3), (9, 0), (9, 0)], Hp L xs m)) := Cx_e (i := 120) rfl rfl rfl rfl
theorem c_121 : Cx F (d + 1) 121 [73, a1, a2, a3] (Hp L xs m) = rK 2 (Ev F d tr_121 0 ([(2, 73), (0, a1), (2, a2), (2, a3), (9, 0), (9, 0)], Hp L xs m)) := Cx_e (i := 121) rfl rfl rfl rfl
theorem c_122 : Cx F (d + 1) 122 [73, a1, a2] (Hp L xs m) = rK 9 (Ev F d tr_122 0 ([(2, 73), (0, a1), (0, a2)], Hp L xs m)) := Cx_e (i := 122) rfl rfl rfl rfl
theorem c_123 : Cx F (d + 1) 123 [73, a1, a2] (Hp L xs m) = rK 9 (Ev F d tr_123 0 ([(2, 73), (0, a1), (2, a2), (9, 0)], Hp L xs m)) := Cx_e (i := 123) rfl rfl rfl rfl
theorem c_126 : Cx F (d + 1) 126 [51, a1] (Hp L xs m) = rK 3 (Ev F d tr_126 0 ([(2, 51), (0, a1)], Hp L xs m)) := Cx_e (i := 126) rfl rfl rfl rfl
theorem c_127 : Cx F (d + 1) 127 [51, a1] (Hp L xs m) = rK 9 (Ev F d tr_127 0 ([(2, 51), (0, a1), (9, 0)], Hp L xs m)) := Cx_e (i := 127) rfl rfl rfl rfl
theorem c_128 : Cx F (d + 1) 128 [51, a1] (Hp L xs m) = rK 0 (Ev F d tr_128 0 ([(2, 51), (0, a1)], Hp L xs m)) := Cx_e (i := 128) rfl rfl rfl rfl
theorem c_129 : Cx F (d + 1) 129 [51, a1] (Hp L xs m) = rK 0 (Ev F d tr_129 0 ([(2, 51), (0, a1)], Hp L xs m)) := Cx_e (i := 129) rfl rfl rfl rfl
theorem c_130 : Cx F (d + 1) 130 [51, a1] (Hp L xs m) = rK 0 (Ev F d tr_130 0 ([(2, 51), (0, a1)], Hp L xs m)) := Cx_e (i := 130) rfl rfl rfl rfl
theorem c_131 : Cx F (d + 1) 131 [51, a1, a2] (Hp L xs m) = rK 9 (Ev F d tr_131 0 ([(2, 51), (0, a1), (0, a2)], Hp L xs m)) := Cx_e (i := 131) rfl rfl rfl rfl
theorem c_132 : Cx F (d + 1) 132 [51, a1] (Hp L xs m) = rK 0 (Ev F d tr_132 0 ([(2, 51), (0, a1)], Hp L xs m)) := Cx_e (i := 132) rfl rfl rfl rfl
theorem c_133 : Cx F (d + 1) 133 [a0] h = rK 0 (Ev F d tr_133 0 ([(0, a0)], h)) := Cx_e (i := 133) rfl rfl rfl rfl
theorem c_134 : Cx F (d + 1) 134 [51, a1] (Hp L xs m) = rK 9 (Ev F d tr_134 0 ([(2, 51), (2, a1), (9, 0), (9, 0)], Hp L xs m)) := Cx_e (i := 134) rfl rfl rfl rfl
theorem c_135 : Cx F (d + 1) 135 [51, a1] (Hp L xs m) = rK 0 (Ev F d tr_135 0 ([(2, 51), (0, a1)], Hp L xs m)) := Cx_e (i := 135) rfl rfl rfl rfl
theorem c_136 : Cx F (d + 1) 136 [51, a1, a2, a3] (Hp L xs m) = rK 9 (Ev F d tr_136 0 ([(2, 51), (0, a1), (0, a2), (0, a3)], Hp L xs m)) := Cx_e (i := 136) rfl rfl rfl rfl
theorem c_137 : Cx F (d + 1) 137 [51, a1] (Hp L xs m) = rK 0 (Ev F d tr_137 0 ([(2, 51), (0, a1), (9, 0), (9, 0), (9, 0)], Hp L xs m)) := Cx_e (i := 137) rfl rfl rfl rfl
theorem c_138 : Cx F (d + 1) 138 [51, a1, a2] (Hp L xs m) = rK 0 (Ev F d tr_138 0 ([(2, 51), (0, a1), (2, a2), (9, 0)], Hp L xs m)) := Cx_e (i := 138) rfl rfl rfl rfl
theorem c_139 : Cx F (d + 1) 139 [51, a1, a2] (Hp L xs m) = rK 0 (Ev F d tr_139 0 ([(2, 51), (0, a1), (2, a2), (9, 0), (9, 0), (9, 0), (9, 0)], Hp L xs m)) := Cx_e (i := 139) rfl rfl rfl rfl
theorem c_140 : Cx F (d + 1) 140 [51, a1] (Hp L xs m) = rK 0 (Ev F d tr_140 0 ([(2, 51), (0, a1), (9, 0), (9, 0)], Hp L xs m)) := Cx_e (i := 140) rfl rfl rfl rfl
theorem c_141 : Cx F (d + 1) 141 [51, a1] (Hp L xs m) = rK 0 (Ev F d tr_141 0 ([(2, 51), (0, a1), (9, 0), (9, 0)], Hp L xs m)) := Cx_e (i := 141) rfl rfl rfl rfl
theorem c_142 : Cx F (d + 1) 142 [a0] h = rK 3 (Ev F d tr_142 0 ([(0, a0)], h)) := Cx_e (i := 142) rfl rfl rfl rfl
theorem c_143 : Cx F (d + 1) 143 [a0] h = rK 3 (Ev F d tr_143 0 ([(0, a0)], h)) := Cx_e (i := 143) rfl rfl rfl rfl
theorem c_144 : Cx F (d + 1) 144 [a0, a1] h = rK 1 (Ev F d tr_144 0 ([(1, a0), (9, 0), (0, a1)], h)) := Cx_e (i := 144) rfl rfl rfl rfl
theorem c_145 : Cx F (d + 1) 145 [a0] h = rK 1 (Ev F d tr_145 0 ([(2, a0), (9, 0), (9, 0), (9, 0)], h)) := Cx_e (i := 145) rfl rfl rfl rfl
theorem c_146 : Cx F (d + 1) 146 [57] (Hp L xs m) = rK 9 (Ev F d tr_146 0 ([(2, 57)], Hp L xs m)) := Cx_e (i := 146) rfl rfl rfl rfl
theorem c_147 : Cx F (d + 1) 147 [57, a1] (Hp L xs m) = rK 9 (Ev F d tr_147 0 ([(2, 57), (2, a1), (9, 0)], Hp L xs m)) := Cx_e (i := 147) rfl rfl rfl rfl
theorem c_148 : Cx F (d + 1) 148 [57, a1] (Hp L xs m) = rK 0 (Ev F d tr_148 0 ([(2, 57), (1, a1), (9, 0), (9, 0)], Hp L xs m)) := Cx_e (i := 148) rfl rfl rfl rfl
theorem c_149 : Cx F (d + 1) 149 [57, a1] (Hp L xs m) = rK 0 (Ev F d tr_149 0 ([(2, 57), (0, a1)], Hp L xs m)) := Cx_e (i := 149) rfl rfl rfl rfl
theorem c_150 : Cx F (d + 1) 150 [57, a1] (Hp L xs m) = rK 0 (Ev F d tr_150 0 ([(2, 57), (0, a1)], Hp L xs m)) := Cx_e (i := 150) rfl rfl rfl rfl
theorem c_151 : Cx F (d + 1) 151 [57, a1] (Hp L xs m) = rK 0 (Ev F d tr_151 0 ([(2, 57), (0, a1)], Hp L xs m)) := Cx_e (i := 151) rfl rfl rfl rfl
theorem c_152 : Cx F (d + 1) 152 [57, a1, a2] (Hp L xs m) = rK 9 (Ev F d tr_152 0 ([(2, 57), (0, a1), (0, a2)], Hp L xs m)) := Cx_e (i := 152) rfl rfl rfl rfl
theorem c_153 : Cx F (d + 1) 153 [57, a1] (Hp L xs m) = rK 0 (Ev F d tr_153 0 ([(2, 57), (0, a1)], Hp L xs m)) := Cx_e (i := 153) rfl rfl rfl rfl
theorem c_154 : Cx F (d + 1) 154 [57, a1] (Hp L xs m) = rK 0 (Ev F d tr_154 0 ([(2, 57), (0, a1)], Hp L xs m)) := Cx_e (i := 154) rfl rfl rfl rfl
theorem c_155 : Cx F (d + 1) 155 [57, a1] (Hp L xs m) = rK 0 (Ev F d tr_155 0 ([(2, 57), (0, a1)], Hp L xs m)) := Cx_e (i := 155) rfl rfl rfl rfl
theorem c_156 : Cx F (d + 1) 156 [57] (Hp L xs m) = rK 0 (Ev F d tr_156 0 ([(2, 57), (9, 0)], Hp L xs m)) := Cx_e (i := 156) rfl rfl rfl rfl
theorem c_157 : Cx F (d + 1) 157 [57] (Hp L xs m) = rK 3 (Ev F d tr_157 0 ([(2, 57)], Hp L xs m)) := Cx_e (i := 157) rfl rfl rfl rfl
theorem c_158 : Cx F (d + 1) 158 [57, a1] (Hp L xs m) = rK 9 (Ev F d tr_158 0 ([(2, 57), (2, a1), (9, 0), (9, 0), (9, 0)], Hp L xs m)) := Cx_e (i := 158) rfl rfl rfl rfl
theorem c_159 : Cx F (d + 1) 159 [57, a1, a2, a3, a4] (Hp L xs m) = rK 9 (Ev F d tr_159 0 ([(2, 57), (2, a1), (0, a2), (0, a3), (0, a4), (9, 0)], Hp L xs m)) := Cx_e (i := 159) rfl rfl rfl rfl
theorem c_160 : Cx F (d + 1) 160 [57, a1, a2] (Hp L xs m) = rK 0 (Ev F d tr_160 0 ([(2, 57), (2, a1), (0, a2), (9, 0), (9, 0)], Hp L xs m)) := Cx_e (i := 160) rfl rfl rfl rfl
theorem c_161 : Cx F (d + 1) 161 [57, a1, a2] (Hp L xs m) = rK 0 (Ev F d tr_161 0 ([(2, 57), (2, a1), (0, a2), (9, 0)], Hp L xs m)) := Cx_e (i := 161) rfl rfl rfl rfl
theorem c_162 : Cx F (d + 1) 162 [57, a1, a2] (Hp L xs m) = rK 0 (Ev F d tr_162 0 ([(2, 57), (2, a1), (0, a2), (9, 0), (9, 0)], Hp L xs m)) := Cx_e (i := 162) rfl rfl rfl rfl
theorem c_168 : Cx F (d + 1) 168 [a0] h = rK 2 (Ev F d tr_168 0 ([(0, a0), (9, 0), (9, 0)], h)) := Cx_e (i := 168) rfl rfl rfl rfl
theorem c_169 : Cx F (d + 1) 169 [a0] h = rK 2 (Ev F d tr_169 0 ([(0, a0), (9, 0), (9, 0)], h)) := Cx_e (i := 169) rfl rfl rfl rfl
theorem c_179 : Cx F (d + 1) 179 [50, a1, a2, a3, a4, a5] (Hp L xs m) = rK 0 (Ev F d tr_179 0 ([(2, 50), (0, a1), (0, a2), (0, a3), (0, a4), (0, a5)], Hp L xs m)) := Cx_e (i := 179) rfl rfl rfl rfl
theorem c_180 : Cx F (d + 1) 180 [50, a1] (Hp L xs m) = rK 0 (Ev F d tr_180 0 ([(2, 50), (0, a1)], Hp L xs m)) := Cx_e (i := 180) rfl rfl rfl rfl
theorem c_181 : Cx F (d + 1) 181 [50] (Hp L xs m) = rK 0 (Ev F d tr_181 0 ([(2, 50), (9, 0)], Hp L xs m)) := Cx_e (i := 181) rfl rfl rfl rfl
theorem c_182 : Cx F (d + 1) 182 [50, a1, a2] (Hp L xs m) = rK 9 (Ev F d tr_182 0 ([(2, 50), (0, a1), (0, a2)], Hp L xs m)) := Cx_e (i := 182) rfl rfl rfl rfl
theorem c_183 : Cx F (d + 1) 183 [50, a1] (Hp L xs m) = rK 0 (Ev F d tr_183 0 ([(2, 50), (0, a1)], Hp L xs m)) := Cx_e (i := 183) rfl rfl rfl rfl
theorem c_184 : Cx F (d + 1) 184 [50, a1] (Hp L xs m) = rK 0 (Ev F d tr_184 0 ([(2, 50), (0, a1)], Hp L xs m)) := Cx_e (i := 184) rfl rfl rfl rfl
theorem c_185 : Cx F (d + 1) 185 [50, a1, a2] (Hp L xs m) = rK 0 (Ev F d tr_185 0 ([(2, 50), (0, a1), (0, a2)], Hp L xs m)) := Cx_e (i := 185) rfl rfl rfl rfl
theorem c_186 : Cx F (d + 1) 186 [50, a1, a2] (Hp L xs m) = rK 0 (Ev F d tr_186 0 ([(2, 50), (0, a1), (0, a2)], Hp L xs m)) := Cx_e (i := 186) rfl rfl rfl rfl
theorem c_187 : Cx F (d + 1) 187 [50, a1] (Hp L xs m) = rK 0 (Ev F d tr_187 0 ([(2, 50), (0, a1)], Hp L xs m)) := Cx_e (i := 187) rfl rfl rfl rfl
theorem c_188 : Cx F (d + 1) 188 [50, a1, a2] (Hp L xs m) = rK 0 (Ev F d tr_188 0 ([(2, 50), (0, a1), (0, a2)], Hp L xs m)) := Cx_e (i := 188) rfl rfl rfl rfl
theorem c_189 : Cx F (d + 1) 189 [50, a1] (Hp L xs m) = rK 3 (Ev F d tr_189 0 ([(2, 50), (0, a1)], Hp L xs m)) := Cx_e (i := 189) rfl rfl rfl rfl
theorem c_190 : Cx F (d + 1) 190 [50] (Hp L xs m) = rK 9 (Ev F d tr_190 0 ([(2, 50)], Hp L xs m)) := Cx_e (i := 190) rfl rfl rfl rfl
theorem c_191 : Cx F (d + 1) 191 [50] (Hp L xs m) = rK 3 (Ev F d tr_191 0 ([(2, 50)], Hp L xs m)) := Cx_e (i := 191) rfl rfl rfl rfl
theorem c_192 : Cx F (d + 1) 192 [50, a1] (Hp L xs m) = rK 0 (Ev F d tr_192 0 ([(2, 50), (0, a1)], Hp L xs m)) := Cx_e (i := 192) rfl rfl rfl rfl
theorem c_193 : Cx F (d + 1) 193 [50] (Hp L xs m) = rK 0 (Ev F d tr_193 0 ([(2, 50), (9, 0)], Hp L xs m)) := Cx_e (i := 193) rfl rfl rfl rfl
theorem c_194 : Cx F (d + 1) 194 [50, a1] (Hp L xs m) = rK 0 (Ev F d tr_194 0 ([(2, 50), (0, a1)], Hp L xs m)) := Cx_e (i := 194) rfl rfl rfl rfl
theorem c_195 : Cx F (d + 1) 195 [50, a1] (Hp L xs m) = rK 0 (Ev F d tr_195 0 ([(2, 50), (0, a1)], Hp L xs m)) := Cx_e (i := 195) rfl rfl rfl rfl
theorem c_196 : Cx F (d + 1) 196 [50, a1] (Hp L xs m) = rK 0 (Ev F d tr_196 0 ([(2, 50), (0, a1)], Hp L xs m)) := Cx_e (i := 196) rfl rfl rfl rfl
theorem c_197 : Cx F (d + 1) 197 [50, a1] (Hp L xs m) = rK 0 (Ev F d tr_197 0 ([(2, 50), (0, a1)], Hp L xs m)) := Cx_e (i := 197) rfl rfl rfl rfl
theorem c_198 : Cx F (d + 1) 198 [a0] h = rK 1 (Ev F d tr_198 0 ([(2, a0), (9, 0), (9, 0), (9, 0)], h)) := Cx_e (i := 198) rfl rfl rfl rfl
theorem c_199 : Cx F (d + 1) 199 [a0] h = rK 0 (Ev F d tr_199 0 ([(0, a0)], h)) := Cx_e (i := 199) rfl rfl rfl rfl
theorem c_200 : Cx F (d + 1) 200 [a0] h = rK 3 (Ev F d tr_200 0 ([(0, a0)], h)) := Cx_e (i := 200) rfl rfl rfl rfl
theorem c_201 : Cx F (d + 1) 201 [a0] h = rK 3 (Ev F d tr_201 0 ([(0, a0)], h)) := Cx_e (i := 201) rfl rfl rfl rfl
theorem c_202 : Cx F (d + 1) 202 [158, a1] (Hp L xs m) = rK 0 (Ev F d tr_202 0 ([(2, 158), (0, a1)], Hp L xs m)) := Cx_e (i := 202) rfl rfl rfl rfl
theorem c_203 : Cx F (d + 1) 203 [158, a1, a2, a3] (Hp L xs m) = rK 9 (Ev F d tr_203 0 ([(2, 158), (0, a1), (0, a2), (1, a3), (9, 0)], Hp L xs m)) := Cx_e (i := 203) rfl rfl rfl rfl
theorem c_204 : Cx F (d + 1) 204 [158, a1] (Hp L xs m) = rK 0 (Ev F d tr_204 0 ([(2, 158), (0, a1), (9, 0), (9, 0), (9, 0), (9, 0), (9, 0)], Hp L xs m)) := Cx_e (i := 204) rfl rfl rfl rfl
theorem c_205 : Cx F (d + 1) 205 [158, a1] (Hp L xs m) = rK 0 (Ev F d tr_205 0 ([(2, 158), (0, a1), (9, 0), (9, 0)], Hp L xs m)) := Cx_e (i := 205) rfl rfl rfl rfl
theorem c_206 : Cx F (d + 1) 206 [158] (Hp L xs m) = rK 9 (Ev F d tr_206 0 ([(2, 158), (9, 0), (9, 0)], Hp L xs m)) := Cx_e (i := 206) rfl rfl rfl rfl
theorem c_207 : Cx F (d + 1) 207 [158, a1, a2] (Hp L xs m) = rK 9 (Ev F d tr_207 0 ([(2, 158), (0, a1), (0, a2)], Hp L xs m)) := Cx_e (i := 207) rfl rfl rfl rfl
theorem c_208 : Cx F (d + 1) 208 [158] (Hp L xs m) = rK 9 (Ev F d tr_208 0 ([(2, 158)], Hp L xs m)) := Cx_e (i := 208) rfl rfl rfl rfl
theorem c_209 : Cx F (d + 1) 209 [158, a1] (Hp L xs m) = rK 3 (Ev F d tr_209 0 ([(2, 158), (0, a1)], Hp L xs m)) := Cx_e (i := 209) rfl rfl rfl rfl
theorem c_210 : Cx F (d + 1) 210 [158, a1] (Hp L xs m) = rK 3 (Ev F d tr_210 0 ([(2, 158), (0, a1)], Hp L xs m)) := Cx_e (i := 210) rfl rfl rfl rfl
theorem c_211 : Cx F (d + 1) 211 [158] (Hp L xs m) = rK 3 (Ev F d tr_211 0 ([(2, 158)], Hp L xs m)) := Cx_e (i := 211) rfl rfl rfl rfl
theorem c_212 : Cx F (d + 1) 212 [158] (Hp L xs m) = rK 9 (Ev F d tr_212 0 ([(2, 158)], Hp L xs m)) := Cx_e (i := 212) rfl rfl rfl rfl
theorem c_213 : Cx F (d + 1) 213 [158, a1] (Hp L xs m) = rK 9 (Ev F d tr_213 0 ([(2, 158), (0, a1)], Hp L xs m)) := Cx_e (i := 213) rfl rfl rfl rfl
theorem c_214 : Cx F (d + 1) 214 [158, a1] (Hp L xs m) = rK 9 (Ev F d tr_214 0 ([(2, 158), (0, a1)], Hp L xs m)) := Cx_e (i := 214) rfl rfl rfl rfl
theorem c_215 : Cx F (d + 1) 215 [158] (Hp L xs m) = rK 0 (Ev F d tr_215 0 ([(2, 158)], Hp L xs m)) := Cx_e (i := 215) rfl rfl rfl rfl
theorem c_216 : Cx F (d + 1) 216 [158] (Hp L xs m) = rK 9 (Ev F d tr_216 0 ([(2, 158)], Hp L xs m)) := Cx_e (i := 216) rfl rfl rfl rfl
theorem c_217 : Cx F (d + 1) 217 [158, a1] (Hp L xs m) = rK 0 (Ev F d tr_217 0 ([(2, 158), (1, a1), (9, 0), (9, 0)], Hp L xs m)) := Cx_e (i := 217) rfl rfl rfl rfl
theorem c_218 : Cx F (d + 1) 218 [158, a1, a2, a3] (Hp L xs m) = rK 9 (Ev F d tr_218 0 ([(2, 158), (1, a1), (9, 0), (0, a2), (0, a3)], Hp L xs m)) := Cx_e (i := 218) rfl rfl rfl rfl
theorem c_219 : Cx F (d + 1) 219 [158, a1, a2, a3] (Hp L xs m) = rK 9 (Ev F d tr_219 0 ([(2, 158), (0, a1), (0, a2), (0, a3)], Hp L xs m)) := Cx_e (i := 219) rfl rfl rfl rfl
theorem c_220 : Cx F (d + 1) 220 [158] (Hp L xs m) = rK 9 (Ev F d tr_220 0 ([(2, 158)], Hp L xs m)) := Cx_e (i := 220) rfl rfl rfl rfl
theorem c_221 : Cx F (d + 1) 221 [158] (Hp L xs m) = rK 9 (Ev F d tr_221 0 ([(2, 158), (9, 0), (9, 0), (9, 0)], Hp L xs m)) := Cx_e (i := 221) rfl rfl rfl rfl
theorem c_222 : Cx F (d + 1) 222 [158] (Hp L xs m) = rK 9 (Ev F d tr_222 0 ([(2, 158), (9, 0)], Hp L xs m)) := Cx_e (i := 222) rfl rfl rfl rfl
theorem c_223 : Cx F (d + 1) 223 [158, a1] (Hp L xs m) = rK 0 (Ev F d tr_223 0 ([(2, 158), (1, a1), (9, 0), (9, 0)], Hp L xs m)) := Cx_e (i := 223) rfl rfl rfl rfl
theorem c_224 : Cx F (d + 1) 224 [158, a1] (Hp L xs m) = rK 9 (Ev F d tr_224 0 ([(2, 158), (0, a1)], Hp L xs m)) := Cx_e (i := 224) rfl rfl rfl rfl
theorem c_225 : Cx F (d + 1) 225 [158, a1] (Hp L xs m) = rK 9 (Ev F d tr_225 0 ([(2, 158), (0, a1)], Hp L xs m)) := Cx_e (i := 225) rfl rfl rfl rfl
theorem c_226 : Cx F (d + 1) 226 [158] (Hp L xs m) = rK 9 (Ev F d tr_226 0 ([(2, 158), (9, 0), (9, 0)], Hp L xs m)) := Cx_e (i := 226) rfl rfl rfl rfl
theorem c_227 : Cx F (d + 1) 227 [158] (Hp L xs m) = rK 9 (Ev F d tr_227 0 ([(2, 158), (9, 0)], Hp L xs m)) := Cx_e (i := 227) rfl rfl rfl rfl
theorem c_228 : Cx F (d + 1) 228 [158, a1] (Hp L xs m) = rK 0 (Ev F d tr_228 0 ([(2, 158), (0, a1), (9, 0)], Hp L xs m)) := Cx_e (i := 228) rfl rfl rfl rfl
theorem c_229 : Cx F (d + 1) 229 [158] (Hp L xs m) = rK 9 (Ev F d tr_229 0 ([(2, 158), (9, 0), (9, 0), (9, 0)], Hp L xs m)) := Cx_e (i := 229) rfl rfl rfl rfl
theorem c_230 : Cx F (d + 1) 230 [158] (Hp L xs m) = rK 9 (Ev F d tr_230 0 ([(2, 158), (9, 0)], Hp L xs m)) := Cx_e (i := 230) rfl rfl rfl rfl
theorem c_231 : Cx F (d + 1) 231 [158] (Hp L xs m) = rK 9 (Ev F d tr_231 0 ([(2, 158), (9, 0), (9, 0)], Hp L xs m)) := Cx_e (i := 231) rfl rfl rfl rfl
theorem c_232 : Cx F (d + 1) 232 [158] (Hp L xs m) = rK 9 (Ev F d tr_232 0 ([(2, 158), (9, 0), (9, 0)], Hp L xs m)) := Cx_e (i := 232) rfl rfl rfl rfl
theorem c_233 : Cx F (d + 1) 233 [158] (Hp L xs m) = rK 9 (Ev F d tr_233 0 ([(2, 158), (9, 0), (9, 0)], Hp L xs m)) := Cx_e (i := 233) rfl rfl rfl rfl
theorem c_234 : Cx F (d + 1) 234 [158] (Hp L xs m) = rK 9 (Ev F d tr_234 0 ([(2, 158), (9, 0), (9, 0), (9, 0), (9, 0), (9, 0), (9, 0), (9, 0), (9, 0), (9, 0)], Hp L xs m)) := Cx_e (i := 234) rfl rfl rfl rfl
theorem c_235 : Cx F (d + 1) 235 [158, a1] (Hp L xs m) = rK 0 (Ev F d tr_235 0 ([(2, 158), (0, a1), (9, 0), (9, 0)], Hp L xs m)) := Cx_e (i := 235) rfl rfl rfl rfl
theorem c_236 : Cx F (d + 1) 236 [158] (Hp L xs m) = rK 9 (Ev F d tr_236 0 ([(2, 158), (9, 0)], Hp L xs m)) := Cx_e (i := 236) rfl rfl rfl rfl
theorem c_237 : Cx F (d + 1) 237 [158] (Hp L xs m) = rK 9 (Ev F d tr_237 0 ([(2, 158), (9, 0)], Hp L xs m)) := Cx_e (i := 237) rfl rfl rfl rfl
theorem c_238 : Cx F (d + 1) 238 [158] (Hp L xs m) = rK 9 (Ev F d tr_238 0 ([(2, 158), (9, 0)], Hp L xs m)) := Cx_e (i := 238) rfl rfl rfl rfl
theorem c_239 : Cx F (d + 1) 239 [158] (Hp L xs m) = rK 9 (Ev F d tr_239 0 ([(2, 158), (9, 0), (9, 0)], Hp L xs m)) := Cx_e (i := 239) rfl rfl rfl rfl
theorem c_240 : Cx F (d + 1) 240 [158] (Hp L xs m) = rK 9 (Ev F d tr_240 0 ([(2, 158)], Hp L xs m)) := Cx_e (i := 240) rfl rfl rfl rfl
theorem c_241 : Cx F (d + 1) 241 [158, a1] (Hp L xs m) = rK 9 (Ev F d tr_241 0 ([(2, 158), (0, a1), (9, 0), (9, 0)], Hp L xs m)) := Cx_e (i := 241) rfl rfl rfl rfl
theorem c_242 : Cx F (d + 1) 242 [158, a1] (Hp L xs m) = rK 0 (Ev F d tr_242 0 ([(2, 158), (0, a1), (9, 0), (9, 0)], Hp L xs m)) := Cx_e (i := 242) rfl rfl rfl rfl
theorem c_243 : Cx F (d + 1) 243 [158, a1] (Hp L xs m) = rK 0 (Ev F d tr_243 0 ([(2, 158), (0, a1), (9, 0)], Hp L xs m)) := Cx_e (i := 243) rfl rfl rfl rfl
theorem c_244 : Cx F (d + 1) 244 [158] (Hp L xs m) = rK 0 (Ev F d tr_244 0 ([(2, 158)], Hp L xs m)) := Cx_e (i := 244) rfl rfl rfl rfl
theorem c_245 : Cx F (d + 1) 245 [158, a1] (Hp L xs m) = rK 9 (Ev F d tr_245 0 ([(2, 158), (0, a1)], Hp L xs m)) := Cx_e (i := 245) rfl rfl rfl rfl
theorem c_246 : Cx F (d + 1) 246 [158, a1, a2, a3] (Hp L xs m) = rK 9 (Ev F d tr_246 0 ([(2, 158), (0, a1), (0, a2), (0, a3)], Hp L xs m)) := Cx_e (i := 246) rfl rfl rfl rfl
theorem c_247 : Cx F (d + 1) 247 [158] (Hp L xs m) = rK 9 (Ev F d tr_247 0 ([(2, 158)], Hp L xs m)) := Cx_e (i := 247) rfl rfl rfl rfl
theorem c_248 : Cx F (d + 1) 248 [158] (Hp L xs m) = rK 9 (Ev F d tr_248 0 ([(2, 158)], Hp L xs m)) := Cx_e (i := 248) rfl rfl rfl rfl
theorem c_250 : Cx F (d + 1) 250 [158, a1, a2, a3, a4, a5] (Hp L xs m) = rK 0 (Ev F d tr_250 0 ([(2, 158), (0, a1), (0, a2), (0, a3), (0, a4), (0, a5), (9, 0), (9, 0)], Hp L xs m)) := Cx_e (i := 250) rfl rfl rfl rfl
theorem c_251 : Cx F (d + 1) 251 [158, a1] (Hp L xs m) = rK 0 (Ev F d tr_251 0 ([(2, 158), (0, a1)], Hp L xs m)) := Cx_e (i := 251) rfl rfl rfl rfl
theorem c_252 : Cx F (d + 1) 252 [158] (Hp L xs m) = rK 0 (Ev F d tr_252 0 ([(2, 158), (9, 0)], Hp L xs m)) := Cx_e (i := 252) rfl rfl rfl rfl
theorem c_253 : Cx F (d + 1) 253 [158, a1] (Hp L xs m) = rK 9 (Ev F d tr_253 0 ([(2, 158), (0, a1), (9, 0), (9, 0)], Hp L xs m)) := Cx_e (i := 253) rfl rfl rfl rfl
theorem c_254 : Cx F (d + 1) 254 [158, a1] (Hp L xs m) = rK 0 (Ev F d tr_254 0 ([(2, 158), (0, a1)], Hp L xs m)) := Cx_e (i := 254) rfl rfl rfl rfl
theorem c_255 : Cx F (d + 1) 255 [158, a1] (Hp L xs m) = rK 0 (Ev F d tr_255 0 ([(2, 158), (0, a1)], Hp L xs m)) := Cx_e (i := 255) rfl rfl rfl rfl
theorem c_256 : Cx F (d + 1) 256 [158, a1] (Hp L xs m) = rK 9 (Ev F d tr_256 0 ([(2, 158), (0, a1), (9, 0), (9, 0)], Hp L xs m)) := Cx_e (i := 256) rfl rfl rfl rfl
theorem c_257 : Cx F (d + 1) 257 [158, a1, a2, a3, a4, a5] (Hp L xs m) = rK 9 (Ev F d tr_257 0 ([(2, 158), (0, a1), (0, a2), (0, a3), (0, a4), (0, a5)], Hp L xs m)) := Cx_e (i := 257) rfl rfl rfl rfl
theorem c_258 : Cx F (d + 1) 258 [158, a1, a2, a3, a4] (Hp L xs m) = rK 9 (Ev F d tr_258 0 ([(2, 158), (0, a1), (0, a2), (0, a3), (0, a4)], Hp L xs m)) := Cx_e (i := 258) rfl rfl rfl rfl
theorem c_259 : Cx F (d + 1) 259 [158, a1, a2, a3, a4] (Hp L xs m) = rK 9 (Ev F d tr_259 0 ([(2, 158), (0, a1), (0, a2), (0, a3), (0, a4)], Hp L xs m)) := Cx_e (i := 259) rfl rfl rfl rfl
theorem c_260 : Cx F (d + 1) 260 [158, a1, a2, a3] (Hp L xs m) = rK 9 (Ev F d tr_260 0 ([(2, 158), (0, a1), (0, a2), (0, a3)], Hp L xs m)) := Cx_e (i := 260) rfl rfl rfl rfl
theorem c_261 : Cx F (d + 1) 261 [158, a1, a2] (Hp L xs m) = rK 9 (Ev F d tr_261 0 ([(2, 158), (0, a1), (0, a2)], Hp L xs m)) := Cx_e (i := 261) rfl rfl rfl rfl
theorem c_262 : Cx F (d + 1) 262 [158, a1, a2] (Hp L xs m) = rK 9 (Ev F d tr_262 0 ([(2, 158), (0, a1), (0, a2)], Hp L xs m)) := Cx_e (i := 262) rfl rfl rfl rfl
theorem c_263 : Cx F (d + 1) 263 [158, a1, a2] (Hp L xs m) = rK 9 (Ev F d tr_263 0 ([(2, 158), (0, a1), (0, a2)], Hp L xs m)) := Cx_e (i := 263) rfl rfl rfl rfl
theorem c_264 : Cx F (d + 1) 264 [158, a1] (Hp L xs m) = rK 9 (Ev F d tr_264 0 ([(2, 158), (0, a1)], Hp L xs m)) := Cx_e (i := 264) rfl rfl rfl rfl
theorem c_265 : Cx F (d + 1) 265 [158, a1, a2] (Hp L xs m) = rK 9 (Ev F d tr_265 0 ([(2, 158), (0, a1), (0, a2)], Hp L xs m)) := Cx_e (i := 265) rfl rfl rfl rfl
theorem c_266 : Cx F (d + 1) 266 [158, a1, a2] (Hp L xs m) = rK 9 (Ev F d tr_266 0 ([(2, 158), (0, a1), (0, a2)], Hp L xs m)) := Cx_e (i := 266) rfl rfl rfl rfl
theorem c_267 : Cx F (d + 1) 267 [158, a1, a2] (Hp L xs m) = rK 9 (Ev F d tr_267 0 ([(2, 158), (0, a1), (0, a2)], Hp L xs m)) := Cx_e (i := 267) rfl rfl rfl rfl
theorem c_268 : Cx F (d + 1) 268 [158, a1] (Hp L xs m) = rK 9 (Ev F d tr_268 0 ([(2, 158), (0, a1)], Hp L xs m)) := Cx_e (i := 268) rfl rfl rfl rfl
theorem c_269 : Cx F (d + 1) 269 [158, a1] (Hp L xs m) = rK 9 (Ev F d tr_269 0 ([(2, 158), (0, a1)], Hp L xs m)) := Cx_e (i := 269) rfl rfl rfl rfl
theorem c_270 : Cx F (d + 1) 270 [158] (Hp L xs m) = rK 9 (Ev F d tr_270 0 ([(2, 158)], Hp L xs m)) := Cx_e (i := 270) rfl rfl rfl rfl
theorem c_271 : Cx F (d + 1) 271 [158] (Hp L xs m) = rK 0 (Ev F d tr_271 0 ([(2, 158)], Hp L xs m)) := Cx_e (i := 271) rfl rfl rfl rfl
theorem c_272 : Cx F (d + 1) 272 [158, a1] (Hp L xs m) = rK 9 (Ev F d tr_272 0 ([(2, 158), (0, a1)], Hp L xs m)) := Cx_e (i := 272) rfl rfl rfl rfl
theorem c_273 : Cx F (d + 1) 273 [158, a1, a2] (Hp L xs m) = rK 9 (Ev F d tr_273 0 ([(2, 158), (0, a1), (0, a2)], Hp L xs m)) := Cx_e (i := 273) rfl rfl rfl rfl
theorem c_274 : Cx F (d + 1) 274 [158, a1, a2] (Hp L xs m) = rK 9 (Ev F d tr_274 0 ([(2, 158), (0, a1), (0, a2)], Hp L xs m)) := Cx_e (i := 274) rfl rfl rfl rfl
theorem c_275 : Cx F (d + 1) 275 [158, a1] (Hp L xs m) = rK 9 (Ev F d tr_275 0 ([(2, 158), (0, a1)], Hp L xs m)) := Cx_e (i := 275) rfl rfl rfl rfl
theorem c_276 : Cx F (d + 1) 276 [158, a1] (Hp L xs m) = rK 9 (Ev F d tr_276 0 ([(2, 158), (0, a1)], Hp L xs m)) := Cx_e (i := 276) rfl rfl rfl rfl
theorem c_277 : Cx F (d + 1) 277 [158, a1] (Hp L xs m) = rK 9 (Ev F d tr_277 0 ([(2, 158), (0, a1)], Hp L xs m)) := Cx_e (i := 277) rfl rfl rfl rfl
theorem c_278 : Cx F (d + 1) 278 [158, a1, a2] (Hp L xs m) = rK 9 (Ev F d tr_278 0 ([(2, 158), (0, a1), (0, a2)], Hp L xs m)) := Cx_e (i := 278) rfl rfl rfl rfl
theorem c_279 : Cx F (d + 1) 279 [158, a1] (Hp L xs m) = rK 9 (Ev F d tr_279 0 ([(2, 158), (0, a1)], Hp L xs m)) := Cx_e (i := 279) rfl rfl rfl rfl
theorem c_280 : Cx F (d + 1) 280 [158, a1] (Hp L xs m) = rK 0 (Ev F d tr_280 0 ([(2, 158), (0, a1)], Hp L xs m)) := Cx_e (i := 280) rfl rfl rfl rfl
theorem c_281 : Cx F (d + 1) 281 [158, a1] (Hp L xs m) = rK 9 (Ev F d tr_281 0 ([(2, 158), (0, a1), (9, 0), (9, 0)], Hp L xs m)) := Cx_e (i := 281) rfl rfl rfl rfl
theorem c_282 : Cx F (d + 1) 282 [158, a1] (Hp L xs m) = rK 9 (Ev F d tr_282 0 ([(2, 158), (0, a1), (9, 0)], Hp L xs m)) := Cx_e (i := 282) rfl rfl rfl rfl
theorem c_283 : Cx F (d + 1) 283 [158, a1] (Hp L xs m) = rK 9 (Ev F d tr_283 0 ([(2, 158), (0, a1), (9, 0), (9, 0)], Hp L xs m)) := Cx_e (i := 283) rfl rfl rfl rfl
theorem c_284 : Cx F (d + 1) 284 [158, a1] (Hp L xs m) = rK 9 (Ev F d tr_284 0 ([(2, 158), (0, a1), (9, 0), (9, 0)], Hp L xs m)) := Cx_e (i := 284) rfl rfl rfl rfl
theorem c_285 : Cx F (d + 1) 285 [158] (Hp L xs m) = rK 9 (Ev F d tr_285 0 ([(2, 158)], Hp L xs m)) := Cx_e (i := 285) rfl rfl rfl rfl
theorem c_286 : Cx F (d + 1) 286 [158] (Hp L xs m) = rK 9 (Ev F d tr_286 0 ([(2, 158)], Hp L xs m)) := Cx_e (i := 286) rfl rfl rfl rfl
theorem c_287 : Cx F (d + 1) 287 [158, a1] (Hp L xs m) = rK 9 (Ev F d tr_287 0 ([(2, 158), (0, a1), (9, 0)], Hp L xs m)) := Cx_e (i := 287) rfl rfl rfl rfl
theorem c_288 : Cx F (d + 1) 288 [a0, a1] h = rK 3 (Ev F d tr_288 0 ([(0, a0), (0, a1), (9, 0)], h)) := Cx_e (i := 288) rfl rfl rfl rfl
theorem c_289 : Cx F (d + 1) 289 [158, a1] (Hp L xs m) = rK 9 (Ev F d tr_289 0 ([(2, 158), (0, a1), (9, 0), (9, 0), (9, 0)], Hp L xs m)) := Cx_e (i := 289) rfl rfl rfl rfl
theorem c_290 : Cx F (d + 1) 290 [158, a1, a2] (Hp L xs m) = rK 9 (Ev F d tr_290 0 ([(2, 158), (0, a1), (0, a2)], Hp L xs m)) := Cx_e (i := 290) rfl rfl rfl rfl
theorem c_291 : Cx F (d + 1) 291 [158, a1, a2] (Hp L xs m) = rK 0 (Ev F d tr_291 0 ([(2, 158), (0, a1), (0, a2)], Hp L xs m)) := Cx_e (i := 291) rfl rfl rfl rfl
theorem c_292 : Cx F (d + 1) 292 [158, a1] (Hp L xs m) = rK 0 (Ev F d tr_292 0 ([(2, 158), (0, a1)], Hp L xs m)) := Cx_e (i := 292) rfl rfl rfl rfl
theorem c_293 : Cx F (d + 1) 293 [158, a1, a2] (Hp L xs m) = rK 0 (Ev F d tr_293 0 ([(2, 158), (0, a1), (0, a2)], Hp L xs m)) := Cx_e (i := 293) rfl rfl rfl rfl
theorem c_294 : Cx F (d + 1) 294 [158, a1, a2] (Hp L xs m) = rK 0 (Ev F d tr_294 0 ([(2, 158), (0, a1), (0, a2), (9, 0), (9, 0)], Hp L xs m)) := Cx_e (i := 294) rfl rfl rfl rfl
theorem c_295 : Cx F (d + 1) 295 [158, a1, a2] (Hp L xs m) = rK 0 (Ev F d tr_295 0 ([(2, 158), (0, a1), (0, a2), (9, 0), (9, 0), (9, 0)], Hp L xs m)) := Cx_e (i := 295) rfl rfl rfl rfl
theorem c_296 : Cx F (d + 1) 296 [158, a1, a2, a3] (Hp L xs m) = rK 0 (Ev F d tr_296 0 ([(2, 158), (0, a1), (0, a2), (0, a3), (9, 0), (9, 0), (9, 0)], Hp L xs m)) := Cx_e (i := 296) rfl rfl rfl rfl
theorem c_297 : Cx F (d + 1) 297 [158, a1, a2, a3] (Hp L xs m) = rK 2 (Ev F d tr_297 0 ([(2, 158), (2, a1), (2, a2), (0, a3), (9, 0), (9, 0), (9, 0), (9, 0), (9, 0), (9, 0), (9, 0), (9, 0), (9, 0), (9, 0)], Hp L xs m)) := Cx_e (i := 297) rfl rfl rfl rfl
theorem c_298 : Cx F (d + 1) 298 [a0] h = rK 2 (Ev F d tr_298 0 ([(0, a0), (9, 0), (9, 0)], h)) := Cx_e (i := 298) rfl rfl rfl rfl
theorem c_299 : Cx F (d + 1) 299 [a0, a1] h = rK 0 (Ev F d tr_299 0 ([(0, a0), (0, a1)], h)) := Cx_e (i := 299) rfl rfl rfl rfl
theorem c_300 : Cx F (d + 1) 300 [158, a1, a2, a3] (Hp L xs m) = rK 2 (Ev F d tr_300 0 ([(2, 158), (0, a1), (0, a2), (0, a3), (9, 0), (9, 0), (9, 0), (9, 0), (9, 0), (9, 0), (9, 0), (9, 0)], Hp L xs m)) := Cx_e (i := 300) rfl rfl rfl rfl
theorem c_301 : Cx F (d + 1) 301 [158, a1, a2, a3] (Hp L xs m) = rK 2 (Ev F d tr_301 0 ([(2, 158), (0, a1), (2, a2), (2, a3), (9, 0), (9, 0)], Hp L xs m)) := Cx_e (i := 301) rfl rfl rfl rfl
theorem c_302 : Cx F (d + 1) 302 [a0] h = rK 2 (Ev F d tr_302 0 ([(0, a0), (9, 0), (9, 0)], h)) := Cx_e (i := 302) rfl rfl rfl rfl
theorem c_303 : Cx F (d + 1) 303 [158, a1] (Hp L xs m) = rK 9 (Ev F d tr_303 0 ([(2, 158), (2, a1), (9, 0), (9, 0), (9, 0), (9, 0)], Hp L xs m)) := Cx_e (i := 303) rfl rfl rfl rfl
theorem c_304 : Cx F (d + 1) 304 [158] (Hp L xs m) = rK 9 (Ev F d tr_304 0 ([(2, 158), (9, 0), (9, 0), (9, 0), (9, 0), (9, 0), (9, 0), (9, 0), (9, 0), (9, 0), (9, 0), (9, 0), (9, 0), (9, 0), (9, 0), (9, 0), (9, 0), (9, 0), (9, 0), (9, 0), (9, 0), (9, 0)], Hp L xs m)) := Cx_e (i := 304) rfl rfl rfl rfl
theorem c_305 : Cx F (d + 1) 305 [158, a1, a2, a3, a4, a5, a6, a7] (Hp L xs m) = rK 2 (Ev F d tr_305 0 ([(2, 158), (2, a1), (2, a2), (2, a3), (2, a4), (2, a5), (0, a6), (0, a7), (9, 0), (9, 0), (9, 0), (9, 0)], Hp L xs m)) := Cx_e (i := 305) rfl rfl rfl rfl
theorem c_306 : Cx F (d + 1) 306 [158, a1, a2, a3, a4, a5, a6, a7, a8] (Hp L xs m) = rK 9 (Ev F d tr_306 0 ([(2, 158), (2, a1), (2, a2), (2, a3), (2, a4), (0, a5), (0, a6), (0, a7), (0, a8), (9, 0), (9, 0), (9, 0), (9, 0), (9, 0), (9, 0), (9, 0), (9, 0), (9, 0), (9, 0), (9, 0), (9, 0), (9, 0), (9, 0), (9, 0), (9, 0), (9, 0), (9, 0), (9, 0), (9, 0), (9, 0), (9, 0), (9, 0), (9, 0)], Hp L xs m)) := Cx_e (i := 306) rfl rfl rfl rfl
theorem c_307 : Cx F (d + 1) 307 [158] (Hp L xs m) = rK 0 (Ev F d tr_307 0 ([(2, 158)], Hp L xs m)) := Cx_e (i := 307) rfl rfl rfl rfl
theorem c_308 : Cx F (d + 1) 308 [a0] h = rK 0 (Ev F d tr_308 0 ([(0, a0)], h)) := Cx_e (i := 308) rfl rfl rfl rfl
theorem c_309 : Cx F (d + 1) 309 [158] (Hp L xs m) = rK 3 (Ev F d tr_309 0 ([(2, 158)], Hp L xs m)) := Cx_e (i := 309) rfl rfl rfl rfl
theorem c_310 : Cx F (d + 1) 310 [158, a1] (Hp L xs m) = rK 9 (Ev F d tr_310 0 ([(2, 158), (0, a1)], Hp L xs m)) := Cx_e (i := 310) rfl rfl rfl rfl
theorem c_311 : Cx F (d + 1) 311 [158] (Hp L xs m) = rK 3 (Ev F d tr_311 0 ([(2, 158)], Hp L xs m)) := Cx_e (i := 311) rfl rfl rfl rfl
theorem c_312 : Cx F (d + 1) 312 [158] (Hp L xs m) = rK 9 (Ev F d tr_312 0 ([(2, 158), (9, 0)], Hp L xs m)) := Cx_e (i := 312) rfl rfl rfl rfl
theorem c_313 : Cx F (d + 1) 313 [158] (Hp L xs m) = rK 9 (Ev F d tr_313 0 ([(2, 158), (9, 0), (9, 0), (9, 0), (9, 0), (9, 0), (9, 0), (9, 0), (9, 0)], Hp L xs m)) := Cx_e (i := 313) rfl rfl rfl rfl
theorem c_314 : Cx F (d + 1) 314 [158, a1, a2] (Hp L xs m) = rK 9 (Ev F d tr_314 0 ([(2, 158), (0, a1), (0, a2), (9, 0)], Hp L xs m)) := Cx_e (i := 314) rfl rfl rfl rfl
theorem c_315 : Cx F (d + 1) 315 [158, a1, a2, a3] (Hp L xs m) = rK 0 (Ev F d tr_315 0 ([(2, 158), (0, a1), (0, a2), (0, a3)], Hp L xs m)) := Cx_e (i := 315) rfl rfl rfl rfl
theorem c_316 : Cx F (d + 1) 316 [a0, a1, a2] h = rK 3 (Ev F d tr_316 0 ([(0, a0), (0, a1), (0, a2)], h)) := Cx_e (i := 316) rfl rfl rfl rfl
theorem c_317 : Cx F (d + 1) 317 [158] (Hp L xs m) = rK 0 (Ev F d tr_317 0 ([(2, 158), (9, 0), (9, 0), (9, 0), (9, 0), (9, 0), (9, 0), (9, 0), (9, 0), (9, 0), (9, 0)], Hp L xs m)) := Cx_e (i := 317) rfl rfl rfl rfl
theorem c_318 : Cx F (d + 1) 318 [158, a1] (Hp L xs m) = rK 0 (Ev F d tr_318 0 ([(2, 158), (0, a1)], Hp L xs m)) := Cx_e (i := 318) rfl rfl rfl rfl
theorem c_319 : Cx F (d + 1) 319 [158, a1] (Hp L xs m) = rK 0 (Ev F d tr_319 0 ([(2, 158), (0, a1)], Hp L xs m)) := Cx_e (i := 319) rfl rfl rfl rfl
theorem c_320 : Cx F (d + 1) 320 [158, a1, a2] (Hp L xs m) = rK 0 (Ev F d tr_320 0 ([(2, 158), (0, a1), (0, a2)], Hp L xs m)) := Cx_e (i := 320) rfl rfl rfl rfl
theorem c_321 : Cx F (d + 1) 321 [158, a1, a2] (Hp L xs m) = rK 0 (Ev F d tr_321 0 ([(2, 158), (0, a1), (0, a2)], Hp L xs m)) := Cx_e (i := 321) rfl rfl rfl rfl
theorem c_322 : Cx F (d + 1) 322 [158, a1] (Hp L xs m) = rK 0 (Ev F d tr_322 0 ([(2, 158), (0, a1)], Hp L xs m)) := Cx_e (i := 322) rfl rfl rfl rfl
theorem c_323 : Cx F (d + 1) 323 [158, a1, a2] (Hp L xs m) = rK 0 (Ev F d tr_323 0 ([(2, 158), (0, a1), (0, a2)], Hp L xs m)) := Cx_e (i := 323) rfl rfl rfl rfl
theorem c_324 : Cx F (d + 1) 324 [158, a1] (Hp L xs m) = rK 3 (Ev F d tr_324 0 ([(2, 158), (0, a1)], Hp L xs m)) := Cx_e (i := 324) rfl rfl rfl rfl
theorem c_325 : Cx F (d + 1) 325 [158] (Hp L xs m) = rK 9 (Ev F d tr_325 0 ([(2, 158)], Hp L xs m)) := Cx_e (i := 325) rfl rfl rfl rfl
theorem c_326 : Cx F (d + 1) 326 [158] (Hp L xs m) = rK 3 (Ev F d tr_326 0 ([(2, 158), (9, 0)], Hp L xs m)) := Cx_e (i := 326) rfl rfl rfl rfl
theorem c_327 : Cx F (d + 1) 327 [158, a1] (Hp L xs m) = rK 0 (Ev F d tr_327 0 ([(2, 158), (0, a1), (9, 0)], Hp L xs m)) := Cx_e (i := 327) rfl rfl rfl rfl
theorem c_328 : Cx F (d + 1) 328 [158] (Hp L xs m) = rK 0 (Ev F d tr_328 0 ([(2, 158), (9, 0), (9, 0)], Hp L xs m)) := Cx_e (i := 328) rfl rfl rfl rfl
theorem c_329 : Cx F (d + 1) 329 [158, a1, a2] (Hp L xs m) = rK 9 (Ev F d tr_329 0 ([(2, 158), (0, a1), (0, a2), (9, 0)], Hp L xs m)) := Cx_e (i := 329) rfl rfl rfl rfl
theorem c_330 : Cx F (d + 1) 330 [158, a1] (Hp L xs m) = rK 0 (Ev F d tr_330 0 ([(2, 158), (0, a1), (9, 0)], Hp L xs m)) := Cx_e (i := 330) rfl rfl rfl rfl
theorem c_331 : Cx F (d + 1) 331 [158, a1] (Hp L xs m) = rK 0 (Ev F d tr_331 0 ([(2, 158), (0, a1)], Hp L xs m)) := Cx_e (i := 331) rfl rfl rfl rfl
theorem c_332 : Cx F (d + 1) 332 [158, a1] (Hp L xs m) = rK 0 (Ev F d tr_332 0 ([(2, 158), (0, a1)], Hp L xs m)) := Cx_e (i := 332) rfl rfl rfl rfl
theorem c_333 : Cx F (d + 1) 333 [158, a1] (Hp L xs m) = rK 0 (Ev F d tr_333 0 ([(2, 158), (0, a1)], Hp L xs m)) := Cx_e (i := 333) rfl rfl rfl rfl
theorem c_334 : Cx F (d + 1) 334 [a0] h = rK 3 (Ev F d tr_334 0 ([(2, a0), (9, 0), (9, 0), (9, 0)], h)) := Cx_e (i := 334) rfl rfl rfl rfl
theorem c_335 : Cx F (d + 1) 335 [a0, a1] h = rK 5 (Ev F d tr_335 0 ([(2, a0), (0, a1)], h)) := Cx_e (i := 335) rfl rfl rfl rfl
theorem c_336 : Cx F (d + 1) 336 [a0] h = rK 3 (Ev F d tr_336 0 ([(0, a0)], h)) := Cx_e (i := 336) rfl rfl rfl rfl
theorem c_337 : Cx F (d + 1) 337 [a0, a1, a2, a3] h = rK 0 (Ev F d tr_337 0 ([(2, a0), (0, a1), (0, a2), (0, a3)], h)) := Cx_e (i := 337) rfl rfl rfl rfl
theorem c_338 : Cx F (d + 1) 338 [a0, a1, a2, a3] h = rK 0 (Ev F d tr_338 0 ([(2, a0), (0, a1), (0, a2), (0, a3), (9, 0), (9, 0)], h)) := Cx_e (i := 338) rfl rfl rfl rfl
theorem c_339 : Cx F (d + 1) 339 [a0, a1, a2] h = rK 2 (Ev F d tr_339 0 ([(2, a0), (0, a1), (0, a2)], h)) := Cx_e (i := 339) rfl rfl rfl rfl
theorem c_340 : Cx F (d + 1) 340 [a0, a1] h = rK 5 (Ev F d tr_340 0 ([(2, a0), (0, a1)], h)) := Cx_e (i := 340) rfl rfl rfl rfl
theorem c_341 : Cx F (d + 1) 341 [a0, a1, a2, a3] h = rK 0 (Ev F d tr_341 0 ([(2, a0), (0, a1), (0, a2), (0, a3)], h)) := Cx_e (i := 341) rfl rfl rfl rfl
theorem c_342 : Cx F (d + 1) 342 [a0, a1, a2] h = rK 2 (Ev F d tr_342 0 ([(2, a0), (0, a1), (0, a2), (9, 0), (9, 0)], h)) := Cx_e (i := 342) rfl rfl rfl rfl
theorem c_343 : Cx F (d + 1) 343 [a0, a1] h = rK 0 (Ev F d tr_343 0 ([(0, a0), (0, a1)], h)) := Cx_e (i := 343) rfl rfl rfl rfl
theorem c_344 : Cx F (d + 1) 344 [a0, a1] h = rK 0 (Ev F d tr_344 0 ([(0, a0), (0, a1)], h)) := Cx_e (i := 344) rfl rfl rfl rfl
theorem c_345 : Cx F (d + 1) 345 [a0, a1, a2] h = rK 0 (Ev F d tr_345 0 ([(0, a0), (0, a1), (2, a2)], h)) := Cx_e (i := 345) rfl rfl rfl rfl
theorem c_346 : Cx F (d + 1) 346 [a0, a1, a2, a3] h = rK 0 (Ev F d tr_346 0 ([(0, a0), (0, a1), (0, a2), (2, a3)], h)) := Cx_e (i := 346) rfl rfl rfl rfl
theorem c_347 : Cx F (d + 1) 347 [a0, a1, a2] h = rK 2 (Ev F d tr_347 0 ([(2, a0), (0, a1), (0, a2)], h)) := Cx_e (i := 347) rfl rfl rfl rfl
theorem c_348 : Cx F (d + 1) 348 [a0, a1, a2] h = rK 2 (Ev F d tr_348 0 ([(2, a0), (0, a1), (0, a2), (9, 0), (9, 0)], h)) := Cx_e (i := 348) rfl rfl rfl rfl
theorem c_349 : Cx F (d + 1) 349 [a0, a1] h = rK 9 (Ev F d tr_349 0 ([(0, a0), (0, a1)], h)) := Cx_e (i := 349) rfl rfl rfl rfl
theorem c_350 : Cx F (d + 1) 350 [a0, a1] h = rK 9 (Ev F d tr_350 0 ([(2, a0), (0, a1), (9, 0), (9, 0)], h)) := Cx_e (i := 350) rfl rfl rfl rfl
end Entry
