/-! A VIEW OF THE CLASS'S TURN: whether it writes (71 3), and the code's size (cd 12) -/
def uv (cd : Nat) (w3 sz : Int) (m : Mem) : Mem := fun a k => if a = 71 then (if k = 3 then w3 else m a k) else if a = cd then (if k = 12 then sz else m a k) else m a k
section Uv
variable {cd : Nat} {m : Mem} {Q : Nat → Int} {i5 p6 w3 sz v A g ch : Int} {J W : Nat → Int}
theorem uv_3 : put (uv cd w3 sz m) 71 3 v = uv cd v sz m := by
  funext a q
  rw [put_ss]
  unfold uv
  by_cases h : a = 71
  · rw [if_pos h, if_pos h, if_pos h]
    by_cases h2 : q = 3
    · rw [if_pos h2, if_pos h2]
    · rw [if_neg h2, if_neg h2, if_neg h2]
  · rw [if_neg h, if_neg h, if_neg h]
theorem uv_12 (hc : cd = 83 ∨ cd = 93) : put (uv cd w3 sz m) cd 12 v = uv cd w3 v m := by
  funext a q
  rw [put_ss]
  unfold uv
  by_cases h : a = cd
  · have h1 : ¬ a = 71 := by omega
    rw [if_pos h, if_neg h1, if_neg h1, if_pos h, if_pos h]
    by_cases h2 : q = 12
    · rw [if_pos h2, if_pos h2]
    · rw [if_neg h2, if_neg h2, if_neg h2]
  · rw [if_neg h]
    by_cases h1 : a = 71
    · rw [if_pos h1, if_pos h1]
    · rw [if_neg h1, if_neg h1, if_neg h, if_neg h]
theorem qv_u3 : put (qv cd Q i5 p6 m) 71 3 v = qv cd Q i5 p6 (put m 71 3 v) := by
  funext a q
  rw [put_ss]
  unfold qv
  rw [put_ss]
  by_cases h : a = 71
  · rw [if_pos h, if_pos h, if_pos h, if_pos h]
    by_cases h2 : q = 3
    · rw [if_pos h2, if_neg (by omega), if_neg (by omega), if_pos h2]
    · rw [if_neg h2, if_neg h2]
  · rw [if_neg h, if_neg h, if_neg h, if_neg h]
theorem qv_12 (hc : cd = 83 ∨ cd = 93) : put (qv cd Q i5 p6 m) cd 12 v = qv cd Q i5 p6 (put m cd 12 v) := by
  funext a q
  rw [put_ss]
  unfold qv
  rw [put_ss]
  by_cases h : a = cd
  · have h1 : ¬ a = 71 := by omega
    have h2 : ¬ a = cd + 4 := by omega
    rw [if_pos h, if_neg h1, if_neg h2, if_neg h1, if_neg h2, if_pos h]
  · rw [if_neg h, if_neg h]
theorem ly_u3 : put (ly A g ch J W cd m) 71 3 v = ly A g ch J W cd (put m 71 3 v) := by
  funext a q
  rw [put_ss]
  unfold ly
  rw [put_ss]
  by_cases h : a = 71
  · rw [if_pos h, if_pos h, if_pos h, if_pos h]
    by_cases h2 : q = 3
    · rw [if_pos h2, if_neg (by omega), if_neg (by omega), if_neg (by omega), if_pos h2]
    · rw [if_neg h2, if_neg h2]
  · rw [if_neg h, if_neg h, if_neg h, if_neg h]
theorem ly_12 (hc : cd = 83 ∨ cd = 93) : put (ly A g ch J W cd m) cd 12 v = ly A g ch J W cd (put m cd 12 v) := by
  funext a q
  rw [put_ss]
  unfold ly
  rw [put_ss]
  by_cases h : a = cd
  · have h1 : ¬ a = 71 := by omega
    have h2 : ¬ a = 72 := by omega
    have h3 : ¬ a = cd + 9 := by omega
    rw [if_pos h, if_neg h1, if_neg h2, if_neg h3, if_neg h1, if_neg h2, if_neg h3, if_pos h]
  · rw [if_neg h, if_neg h]
/-- items of the class do not read what a turn changes -/
theorem cpC_u (hc : cd = 83 ∨ cd = 93) {p0 : Int} : ∀ i, cpC (uv cd w3 sz m) cd p0 i = cpC m cd p0 i
  | 0 => rfl
  | i + 1 => by
    have e1 : uv cd w3 sz m (cd + 1) i = m (cd + 1) i := by rcases hc with rfl | rfl <;> rfl
    have e2 : uv cd w3 sz m (cd + 2) i = m (cd + 2) i := by rcases hc with rfl | rfl <;> rfl
    have e3 : PAc (uv cd w3 sz m) cd (m (cd + 2) i) = PAc m cd (m (cd + 2) i) := by rcases hc with rfl | rfl <;> rfl
    show (if uv cd w3 sz m (cd + 1) i = 0 then PAc (uv cd w3 sz m) cd (uv cd w3 sz m (cd + 2) i) else cpC (uv cd w3 sz m) cd p0 i) = if m (cd + 1) i = 0 then PAc m cd (m (cd + 2) i) else cpC m cd p0 i
    rw [e1, e2, e3, cpC_u hc i]
theorem dC_u (hc : cd = 83 ∨ cd = 93) {p0 j : Int} {i : Nat} : dC (uv cd w3 sz m) cd p0 j i = dC m cd p0 j i := by
  unfold dC itC
  rw [cpC_u hc]
  have e : csC (qv cd (fun _ => 0) 0 (cpC m cd p0 (i + 1)) (uv cd w3 sz m)) (qv cd (fun _ => 0) 0 (cpC m cd p0 (i + 1)) (uv cd w3 sz m) (cd + 2) i) = csC (qv cd (fun _ => 0) 0 (cpC m cd p0 (i + 1)) m) (qv cd (fun _ => 0) 0 (cpC m cd p0 (i + 1)) m (cd + 2) i) := by
    unfold csC
    rcases hc with rfl | rfl
    · exact rcL_c (m := qv 83 (fun _ => 0) 0 (cpC m 83 p0 (i + 1)) (uv 83 w3 sz m)) (m2 := qv 83 (fun _ => 0) 0 (cpC m 83 p0 (i + 1)) m) (fun _ => rfl) (fun _ => rfl) _ _
    · exact rcL_c (m := qv 93 (fun _ => 0) 0 (cpC m 93 p0 (i + 1)) (uv 93 w3 sz m)) (m2 := qv 93 (fun _ => 0) 0 (cpC m 93 p0 (i + 1)) m) (fun _ => rfl) (fun _ => rfl) _ _
  rw [e]
  rcases hc with rfl | rfl
  · rfl
  · rfl
theorem clI_u (hc : cd = 83 ∨ cd = 93) {p0 : Int} : ∀ i, clI (uv cd w3 sz m) cd p0 J i = clI m cd p0 J i
  | 0 => rfl
  | i + 1 => by
    show clI (uv cd w3 sz m) cd p0 J i ++ dC (uv cd w3 sz m) cd p0 (J i) i = clI m cd p0 J i ++ dC m cd p0 (J i) i
    rw [clI_u hc i, dC_u hc]
end Uv
