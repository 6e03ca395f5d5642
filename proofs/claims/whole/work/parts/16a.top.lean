/-! THE TOP, first walk: what the model lays there is told by a memory of its own, j -/
def jt (j m : Mem) : Mem := fun a k => if a = 158 then (if k = 17 then j a k else if k = 21 then j a k else if k = 24 then j a k else if k = 25 then j a k else if k = 28 then j a k else if k = 29 then j a k else if k = 30 then j a k else if k = 31 then j a k else if k = 33 then j a k else if k = 39 then j a k else if k = 40 then j a k else if k = 46 then j a k else if k = 48 then j a k else if k = 49 then j a k else if k = 52 then j a k else if k = 53 then j a k else m a k) else if a = 165 then j a k else if a = 166 then j a k else if a = 167 then j a k else if a = 168 then j a k else if a = 170 then j a k else if a = 171 then j a k else if a = 172 then j a k else if a = 173 then j a k else if a = 174 then j a k else if a = 181 then j a k else if a = 182 then j a k else if a = 183 then j a k else m a k
section Jt
variable {p dep q v : Int} {j m : Mem} {k : Nat}
theorem rt_17 : rv p dep (jt j m) 158 17 = j 158 17 := (rfl)
theorem rtp_17 : put (rv p dep (jt j m)) 158 17 v = rv p dep (jt (put j 158 17 v) m) := by
  funext a k'
  simp only [rv, fl, jt, put_ss, Nat.reduceEqDiff, if_false, if_true]
  by_cases h1 : a = 158
  · subst h1
    by_cases h2 : k' = 17
    · subst h2
      simp only [Nat.reduceEqDiff, if_true, if_false]
    · simp only [h2, if_true, if_false]
  · simp only [h1, if_false]
theorem ft_17 : fl p dep (jt j m) 158 17 = j 158 17 := (rfl)
theorem ftp_17 : put (fl p dep (jt j m)) 158 17 v = fl p dep (jt (put j 158 17 v) m) := by
  funext a k'
  simp only [rv, fl, jt, put_ss, Nat.reduceEqDiff, if_false, if_true]
  by_cases h1 : a = 158
  · subst h1
    by_cases h2 : k' = 17
    · subst h2
      simp only [Nat.reduceEqDiff, if_true, if_false]
    · simp only [h2, if_true, if_false]
  · simp only [h1, if_false]
theorem rt_21 : rv p dep (jt j m) 158 21 = j 158 21 := (rfl)
theorem rtp_21 : put (rv p dep (jt j m)) 158 21 v = rv p dep (jt (put j 158 21 v) m) := by
  funext a k'
  simp only [rv, fl, jt, put_ss, Nat.reduceEqDiff, if_false, if_true]
  by_cases h1 : a = 158
  · subst h1
    by_cases h2 : k' = 21
    · subst h2
      simp only [Nat.reduceEqDiff, if_true, if_false]
    · simp only [h2, if_true, if_false]
  · simp only [h1, if_false]
theorem ft_21 : fl p dep (jt j m) 158 21 = j 158 21 := (rfl)
theorem ftp_21 : put (fl p dep (jt j m)) 158 21 v = fl p dep (jt (put j 158 21 v) m) := by
  funext a k'
  simp only [rv, fl, jt, put_ss, Nat.reduceEqDiff, if_false, if_true]
  by_cases h1 : a = 158
  · subst h1
    by_cases h2 : k' = 21
    · subst h2
      simp only [Nat.reduceEqDiff, if_true, if_false]
    · simp only [h2, if_true, if_false]
  · simp only [h1, if_false]
theorem rt_24 : rv p dep (jt j m) 158 24 = j 158 24 := (rfl)
theorem rtp_24 : put (rv p dep (jt j m)) 158 24 v = rv p dep (jt (put j 158 24 v) m) := by
  funext a k'
  simp only [rv, fl, jt, put_ss, Nat.reduceEqDiff, if_false, if_true]
  by_cases h1 : a = 158
  · subst h1
    by_cases h2 : k' = 24
    · subst h2
      simp only [Nat.reduceEqDiff, if_true, if_false]
    · simp only [h2, if_true, if_false]
  · simp only [h1, if_false]
theorem ft_24 : fl p dep (jt j m) 158 24 = j 158 24 := (rfl)
theorem ftp_24 : put (fl p dep (jt j m)) 158 24 v = fl p dep (jt (put j 158 24 v) m) := by
  funext a k'
  simp only [rv, fl, jt, put_ss, Nat.reduceEqDiff, if_false, if_true]
  by_cases h1 : a = 158
  · subst h1
    by_cases h2 : k' = 24
    · subst h2
      simp only [Nat.reduceEqDiff, if_true, if_false]
    · simp only [h2, if_true, if_false]
  · simp only [h1, if_false]
theorem rt_25 : rv p dep (jt j m) 158 25 = j 158 25 := (rfl)
theorem rtp_25 : put (rv p dep (jt j m)) 158 25 v = rv p dep (jt (put j 158 25 v) m) := by
  funext a k'
  simp only [rv, fl, jt, put_ss, Nat.reduceEqDiff, if_false, if_true]
  by_cases h1 : a = 158
  · subst h1
    by_cases h2 : k' = 25
    · subst h2
      simp only [Nat.reduceEqDiff, if_true, if_false]
    · simp only [h2, if_true, if_false]
  · simp only [h1, if_false]
theorem ft_25 : fl p dep (jt j m) 158 25 = j 158 25 := (rfl)
theorem ftp_25 : put (fl p dep (jt j m)) 158 25 v = fl p dep (jt (put j 158 25 v) m) := by
  funext a k'
  simp only [rv, fl, jt, put_ss, Nat.reduceEqDiff, if_false, if_true]
  by_cases h1 : a = 158
  · subst h1
    by_cases h2 : k' = 25
    · subst h2
      simp only [Nat.reduceEqDiff, if_true, if_false]
    · simp only [h2, if_true, if_false]
  · simp only [h1, if_false]
theorem rt_28 : rv p dep (jt j m) 158 28 = j 158 28 := (rfl)
theorem rtp_28 : put (rv p dep (jt j m)) 158 28 v = rv p dep (jt (put j 158 28 v) m) := by
  funext a k'
  simp only [rv, fl, jt, put_ss, Nat.reduceEqDiff, if_false, if_true]
  by_cases h1 : a = 158
  · subst h1
    by_cases h2 : k' = 28
    · subst h2
      simp only [Nat.reduceEqDiff, if_true, if_false]
    · simp only [h2, if_true, if_false]
  · simp only [h1, if_false]
theorem ft_28 : fl p dep (jt j m) 158 28 = j 158 28 := (rfl)
theorem ftp_28 : put (fl p dep (jt j m)) 158 28 v = fl p dep (jt (put j 158 28 v) m) := by
  funext a k'
  simp only [rv, fl, jt, put_ss, Nat.reduceEqDiff, if_false, if_true]
  by_cases h1 : a = 158
  · subst h1
    by_cases h2 : k' = 28
    · subst h2
      simp only [Nat.reduceEqDiff, if_true, if_false]
    · simp only [h2, if_true, if_false]
  · simp only [h1, if_false]
theorem rt_29 : rv p dep (jt j m) 158 29 = j 158 29 := (rfl)
theorem rtp_29 : put (rv p dep (jt j m)) 158 29 v = rv p dep (jt (put j 158 29 v) m) := by
  funext a k'
  simp only [rv, fl, jt, put_ss, Nat.reduceEqDiff, if_false, if_true]
  by_cases h1 : a = 158
  · subst h1
    by_cases h2 : k' = 29
    · subst h2
      simp only [Nat.reduceEqDiff, if_true, if_false]
    · simp only [h2, if_true, if_false]
  · simp only [h1, if_false]
theorem ft_29 : fl p dep (jt j m) 158 29 = j 158 29 := (rfl)
theorem ftp_29 : put (fl p dep (jt j m)) 158 29 v = fl p dep (jt (put j 158 29 v) m) := by
  funext a k'
  simp only [rv, fl, jt, put_ss, Nat.reduceEqDiff, if_false, if_true]
  by_cases h1 : a = 158
  · subst h1
    by_cases h2 : k' = 29
    · subst h2
      simp only [Nat.reduceEqDiff, if_true, if_false]
    · simp only [h2, if_true, if_false]
  · simp only [h1, if_false]
theorem rt_30 : rv p dep (jt j m) 158 30 = j 158 30 := (rfl)
theorem rtp_30 : put (rv p dep (jt j m)) 158 30 v = rv p dep (jt (put j 158 30 v) m) := by
  funext a k'
  simp only [rv, fl, jt, put_ss, Nat.reduceEqDiff, if_false, if_true]
  by_cases h1 : a = 158
  · subst h1
    by_cases h2 : k' = 30
    · subst h2
      simp only [Nat.reduceEqDiff, if_true, if_false]
    · simp only [h2, if_true, if_false]
  · simp only [h1, if_false]
theorem ft_30 : fl p dep (jt j m) 158 30 = j 158 30 := (rfl)
theorem ftp_30 : put (fl p dep (jt j m)) 158 30 v = fl p dep (jt (put j 158 30 v) m) := by
  funext a k'
  simp only [rv, fl, jt, put_ss, Nat.reduceEqDiff, if_false, if_true]
  by_cases h1 : a = 158
  · subst h1
    by_cases h2 : k' = 30
    · subst h2
      simp only [Nat.reduceEqDiff, if_true, if_false]
    · simp only [h2, if_true, if_false]
  · simp only [h1, if_false]
theorem rt_31 : rv p dep (jt j m) 158 31 = j 158 31 := (rfl)
theorem rtp_31 : put (rv p dep (jt j m)) 158 31 v = rv p dep (jt (put j 158 31 v) m) := by
  funext a k'
  simp only [rv, fl, jt, put_ss, Nat.reduceEqDiff, if_false, if_true]
  by_cases h1 : a = 158
  · subst h1
    by_cases h2 : k' = 31
    · subst h2
      simp only [Nat.reduceEqDiff, if_true, if_false]
    · simp only [h2, if_true, if_false]
  · simp only [h1, if_false]
theorem ft_31 : fl p dep (jt j m) 158 31 = j 158 31 := (rfl)
theorem ftp_31 : put (fl p dep (jt j m)) 158 31 v = fl p dep (jt (put j 158 31 v) m) := by
  funext a k'
  simp only [rv, fl, jt, put_ss, Nat.reduceEqDiff, if_false, if_true]
  by_cases h1 : a = 158
  · subst h1
    by_cases h2 : k' = 31
    · subst h2
      simp only [Nat.reduceEqDiff, if_true, if_false]
    · simp only [h2, if_true, if_false]
  · simp only [h1, if_false]
theorem rt_33 : rv p dep (jt j m) 158 33 = j 158 33 := (rfl)
theorem rtp_33 : put (rv p dep (jt j m)) 158 33 v = rv p dep (jt (put j 158 33 v) m) := by
  funext a k'
  simp only [rv, fl, jt, put_ss, Nat.reduceEqDiff, if_false, if_true]
  by_cases h1 : a = 158
  · subst h1
    by_cases h2 : k' = 33
    · subst h2
      simp only [Nat.reduceEqDiff, if_true, if_false]
    · simp only [h2, if_true, if_false]
  · simp only [h1, if_false]
theorem ft_33 : fl p dep (jt j m) 158 33 = j 158 33 := (rfl)
theorem ftp_33 : put (fl p dep (jt j m)) 158 33 v = fl p dep (jt (put j 158 33 v) m) := by
  funext a k'
  simp only [rv, fl, jt, put_ss, Nat.reduceEqDiff, if_false, if_true]
  by_cases h1 : a = 158
  · subst h1
    by_cases h2 : k' = 33
    · subst h2
      simp only [Nat.reduceEqDiff, if_true, if_false]
    · simp only [h2, if_true, if_false]
  · simp only [h1, if_false]
theorem rt_39 : rv p dep (jt j m) 158 39 = j 158 39 := (rfl)
theorem rtp_39 : put (rv p dep (jt j m)) 158 39 v = rv p dep (jt (put j 158 39 v) m) := by
  funext a k'
  simp only [rv, fl, jt, put_ss, Nat.reduceEqDiff, if_false, if_true]
  by_cases h1 : a = 158
  · subst h1
    by_cases h2 : k' = 39
    · subst h2
      simp only [Nat.reduceEqDiff, if_true, if_false]
    · simp only [h2, if_true, if_false]
  · simp only [h1, if_false]
theorem ft_39 : fl p dep (jt j m) 158 39 = j 158 39 := (rfl)
theorem ftp_39 : put (fl p dep (jt j m)) 158 39 v = fl p dep (jt (put j 158 39 v) m) := by
  funext a k'
  simp only [rv, fl, jt, put_ss, Nat.reduceEqDiff, if_false, if_true]
  by_cases h1 : a = 158
  · subst h1
    by_cases h2 : k' = 39
    · subst h2
      simp only [Nat.reduceEqDiff, if_true, if_false]
    · simp only [h2, if_true, if_false]
  · simp only [h1, if_false]
theorem rt_40 : rv p dep (jt j m) 158 40 = j 158 40 := (rfl)
theorem rtp_40 : put (rv p dep (jt j m)) 158 40 v = rv p dep (jt (put j 158 40 v) m) := by
  funext a k'
  simp only [rv, fl, jt, put_ss, Nat.reduceEqDiff, if_false, if_true]
  by_cases h1 : a = 158
  · subst h1
    by_cases h2 : k' = 40
    · subst h2
      simp only [Nat.reduceEqDiff, if_true, if_false]
    · simp only [h2, if_true, if_false]
  · simp only [h1, if_false]
theorem ft_40 : fl p dep (jt j m) 158 40 = j 158 40 := (rfl)
theorem ftp_40 : put (fl p dep (jt j m)) 158 40 v = fl p dep (jt (put j 158 40 v) m) := by
  funext a k'
  simp only [rv, fl, jt, put_ss, Nat.reduceEqDiff, if_false, if_true]
  by_cases h1 : a = 158
  · subst h1
    by_cases h2 : k' = 40
    · subst h2
      simp only [Nat.reduceEqDiff, if_true, if_false]
    · simp only [h2, if_true, if_false]
  · simp only [h1, if_false]
theorem rt_46 : rv p dep (jt j m) 158 46 = j 158 46 := (rfl)
theorem rtp_46 : put (rv p dep (jt j m)) 158 46 v = rv p dep (jt (put j 158 46 v) m) := by
  funext a k'
  simp only [rv, fl, jt, put_ss, Nat.reduceEqDiff, if_false, if_true]
  by_cases h1 : a = 158
  · subst h1
    by_cases h2 : k' = 46
    · subst h2
      simp only [Nat.reduceEqDiff, if_true, if_false]
    · simp only [h2, if_true, if_false]
  · simp only [h1, if_false]
theorem ft_46 : fl p dep (jt j m) 158 46 = j 158 46 := (rfl)
theorem ftp_46 : put (fl p dep (jt j m)) 158 46 v = fl p dep (jt (put j 158 46 v) m) := by
  funext a k'
  simp only [rv, fl, jt, put_ss, Nat.reduceEqDiff, if_false, if_true]
  by_cases h1 : a = 158
  · subst h1
    by_cases h2 : k' = 46
    · subst h2
      simp only [Nat.reduceEqDiff, if_true, if_false]
    · simp only [h2, if_true, if_false]
  · simp only [h1, if_false]
theorem rt_48 : rv p dep (jt j m) 158 48 = j 158 48 := (rfl)
theorem rtp_48 : put (rv p dep (jt j m)) 158 48 v = rv p dep (jt (put j 158 48 v) m) := by
  funext a k'
  simp only [rv, fl, jt, put_ss, Nat.reduceEqDiff, if_false, if_true]
  by_cases h1 : a = 158
  · subst h1
    by_cases h2 : k' = 48
    · subst h2
      simp only [Nat.reduceEqDiff, if_true, if_false]
    · simp only [h2, if_true, if_false]
  · simp only [h1, if_false]
theorem ft_48 : fl p dep (jt j m) 158 48 = j 158 48 := (rfl)
theorem ftp_48 : put (fl p dep (jt j m)) 158 48 v = fl p dep (jt (put j 158 48 v) m) := by
  funext a k'
  simp only [rv, fl, jt, put_ss, Nat.reduceEqDiff, if_false, if_true]
  by_cases h1 : a = 158
  · subst h1
    by_cases h2 : k' = 48
    · subst h2
      simp only [Nat.reduceEqDiff, if_true, if_false]
    · simp only [h2, if_true, if_false]
  · simp only [h1, if_false]
theorem rt_49 : rv p dep (jt j m) 158 49 = j 158 49 := (rfl)
theorem rtp_49 : put (rv p dep (jt j m)) 158 49 v = rv p dep (jt (put j 158 49 v) m) := by
  funext a k'
  simp only [rv, fl, jt, put_ss, Nat.reduceEqDiff, if_false, if_true]
  by_cases h1 : a = 158
  · subst h1
    by_cases h2 : k' = 49
    · subst h2
      simp only [Nat.reduceEqDiff, if_true, if_false]
    · simp only [h2, if_true, if_false]
  · simp only [h1, if_false]
theorem ft_49 : fl p dep (jt j m) 158 49 = j 158 49 := (rfl)
theorem ftp_49 : put (fl p dep (jt j m)) 158 49 v = fl p dep (jt (put j 158 49 v) m) := by
  funext a k'
  simp only [rv, fl, jt, put_ss, Nat.reduceEqDiff, if_false, if_true]
  by_cases h1 : a = 158
  · subst h1
    by_cases h2 : k' = 49
    · subst h2
      simp only [Nat.reduceEqDiff, if_true, if_false]
    · simp only [h2, if_true, if_false]
  · simp only [h1, if_false]
theorem rt_52 : rv p dep (jt j m) 158 52 = j 158 52 := (rfl)
theorem rtp_52 : put (rv p dep (jt j m)) 158 52 v = rv p dep (jt (put j 158 52 v) m) := by
  funext a k'
  simp only [rv, fl, jt, put_ss, Nat.reduceEqDiff, if_false, if_true]
  by_cases h1 : a = 158
  · subst h1
    by_cases h2 : k' = 52
    · subst h2
      simp only [Nat.reduceEqDiff, if_true, if_false]
    · simp only [h2, if_true, if_false]
  · simp only [h1, if_false]
theorem ft_52 : fl p dep (jt j m) 158 52 = j 158 52 := (rfl)
theorem ftp_52 : put (fl p dep (jt j m)) 158 52 v = fl p dep (jt (put j 158 52 v) m) := by
  funext a k'
  simp only [rv, fl, jt, put_ss, Nat.reduceEqDiff, if_false, if_true]
  by_cases h1 : a = 158
  · subst h1
    by_cases h2 : k' = 52
    · subst h2
      simp only [Nat.reduceEqDiff, if_true, if_false]
    · simp only [h2, if_true, if_false]
  · simp only [h1, if_false]
theorem rt_53 : rv p dep (jt j m) 158 53 = j 158 53 := (rfl)
theorem rtp_53 : put (rv p dep (jt j m)) 158 53 v = rv p dep (jt (put j 158 53 v) m) := by
  funext a k'
  simp only [rv, fl, jt, put_ss, Nat.reduceEqDiff, if_false, if_true]
  by_cases h1 : a = 158
  · subst h1
    by_cases h2 : k' = 53
    · subst h2
      simp only [Nat.reduceEqDiff, if_true, if_false]
    · simp only [h2, if_true, if_false]
  · simp only [h1, if_false]
theorem ft_53 : fl p dep (jt j m) 158 53 = j 158 53 := (rfl)
theorem ftp_53 : put (fl p dep (jt j m)) 158 53 v = fl p dep (jt (put j 158 53 v) m) := by
  funext a k'
  simp only [rv, fl, jt, put_ss, Nat.reduceEqDiff, if_false, if_true]
  by_cases h1 : a = 158
  · subst h1
    by_cases h2 : k' = 53
    · subst h2
      simp only [Nat.reduceEqDiff, if_true, if_false]
    · simp only [h2, if_true, if_false]
  · simp only [h1, if_false]
theorem rt_165 : rv p dep (jt j m) 165 k = j 165 k := (rfl)
theorem rtp_165 : put (rv p dep (jt j m)) 165 k v = rv p dep (jt (put j 165 k v) m) := by
  funext a k'
  simp only [rv, fl, jt, put_ss, Nat.reduceEqDiff, if_false, if_true]
  by_cases h1 : a = 165
  · subst h1
    simp only [Nat.reduceEqDiff, if_true, if_false]
  · simp only [h1, if_false]
theorem ft_165 : fl p dep (jt j m) 165 k = j 165 k := (rfl)
theorem ftp_165 : put (fl p dep (jt j m)) 165 k v = fl p dep (jt (put j 165 k v) m) := by
  funext a k'
  simp only [rv, fl, jt, put_ss, Nat.reduceEqDiff, if_false, if_true]
  by_cases h1 : a = 165
  · subst h1
    simp only [Nat.reduceEqDiff, if_true, if_false]
  · simp only [h1, if_false]
theorem rt_166 : rv p dep (jt j m) 166 k = j 166 k := (rfl)
theorem rtp_166 : put (rv p dep (jt j m)) 166 k v = rv p dep (jt (put j 166 k v) m) := by
  funext a k'
  simp only [rv, fl, jt, put_ss, Nat.reduceEqDiff, if_false, if_true]
  by_cases h1 : a = 166
  · subst h1
    simp only [Nat.reduceEqDiff, if_true, if_false]
  · simp only [h1, if_false]
theorem ft_166 : fl p dep (jt j m) 166 k = j 166 k := (rfl)
theorem ftp_166 : put (fl p dep (jt j m)) 166 k v = fl p dep (jt (put j 166 k v) m) := by
  funext a k'
  simp only [rv, fl, jt, put_ss, Nat.reduceEqDiff, if_false, if_true]
  by_cases h1 : a = 166
  · subst h1
    simp only [Nat.reduceEqDiff, if_true, if_false]
  · simp only [h1, if_false]
theorem rt_167 : rv p dep (jt j m) 167 k = j 167 k := (rfl)
theorem rtp_167 : put (rv p dep (jt j m)) 167 k v = rv p dep (jt (put j 167 k v) m) := by
  funext a k'
  simp only [rv, fl, jt, put_ss, Nat.reduceEqDiff, if_false, if_true]
  by_cases h1 : a = 167
  · subst h1
    simp only [Nat.reduceEqDiff, if_true, if_false]
  · simp only [h1, if_false]
theorem ft_167 : fl p dep (jt j m) 167 k = j 167 k := (rfl)
theorem ftp_167 : put (fl p dep (jt j m)) 167 k v = fl p dep (jt (put j 167 k v) m) := by
  funext a k'
  simp only [rv, fl, jt, put_ss, Nat.reduceEqDiff, if_false, if_true]
  by_cases h1 : a = 167
  · subst h1
    simp only [Nat.reduceEqDiff, if_true, if_false]
  · simp only [h1, if_false]
theorem rt_168 : rv p dep (jt j m) 168 k = j 168 k := (rfl)
theorem rtp_168 : put (rv p dep (jt j m)) 168 k v = rv p dep (jt (put j 168 k v) m) := by
  funext a k'
  simp only [rv, fl, jt, put_ss, Nat.reduceEqDiff, if_false, if_true]
  by_cases h1 : a = 168
  · subst h1
    simp only [Nat.reduceEqDiff, if_true, if_false]
  · simp only [h1, if_false]
theorem ft_168 : fl p dep (jt j m) 168 k = j 168 k := (rfl)
theorem ftp_168 : put (fl p dep (jt j m)) 168 k v = fl p dep (jt (put j 168 k v) m) := by
  funext a k'
  simp only [rv, fl, jt, put_ss, Nat.reduceEqDiff, if_false, if_true]
  by_cases h1 : a = 168
  · subst h1
    simp only [Nat.reduceEqDiff, if_true, if_false]
  · simp only [h1, if_false]
theorem rt_170 : rv p dep (jt j m) 170 k = j 170 k := (rfl)
theorem rtp_170 : put (rv p dep (jt j m)) 170 k v = rv p dep (jt (put j 170 k v) m) := by
  funext a k'
  simp only [rv, fl, jt, put_ss, Nat.reduceEqDiff, if_false, if_true]
  by_cases h1 : a = 170
  · subst h1
    simp only [Nat.reduceEqDiff, if_true, if_false]
  · simp only [h1, if_false]
theorem ft_170 : fl p dep (jt j m) 170 k = j 170 k := (rfl)
theorem ftp_170 : put (fl p dep (jt j m)) 170 k v = fl p dep (jt (put j 170 k v) m) := by
  funext a k'
  simp only [rv, fl, jt, put_ss, Nat.reduceEqDiff, if_false, if_true]
  by_cases h1 : a = 170
  · subst h1
    simp only [Nat.reduceEqDiff, if_true, if_false]
  · simp only [h1, if_false]
theorem rt_171 : rv p dep (jt j m) 171 k = j 171 k := (rfl)
theorem rtp_171 : put (rv p dep (jt j m)) 171 k v = rv p dep (jt (put j 171 k v) m) := by
  funext a k'
  simp only [rv, fl, jt, put_ss, Nat.reduceEqDiff, if_false, if_true]
  by_cases h1 : a = 171
  · subst h1
    simp only [Nat.reduceEqDiff, if_true, if_false]
  · simp only [h1, if_false]
theorem ft_171 : fl p dep (jt j m) 171 k = j 171 k := (rfl)
theorem ftp_171 : put (fl p dep (jt j m)) 171 k v = fl p dep (jt (put j 171 k v) m) := by
  funext a k'
  simp only [rv, fl, jt, put_ss, Nat.reduceEqDiff, if_false, if_true]
  by_cases h1 : a = 171
  · subst h1
    simp only [Nat.reduceEqDiff, if_true, if_false]
  · simp only [h1, if_false]
theorem rt_172 : rv p dep (jt j m) 172 k = j 172 k := (rfl)
theorem rtp_172 : put (rv p dep (jt j m)) 172 k v = rv p dep (jt (put j 172 k v) m) := by
  funext a k'
  simp only [rv, fl, jt, put_ss, Nat.reduceEqDiff, if_false, if_true]
  by_cases h1 : a = 172
  · subst h1
    simp only [Nat.reduceEqDiff, if_true, if_false]
  · simp only [h1, if_false]
theorem ft_172 : fl p dep (jt j m) 172 k = j 172 k := (rfl)
theorem ftp_172 : put (fl p dep (jt j m)) 172 k v = fl p dep (jt (put j 172 k v) m) := by
  funext a k'
  simp only [rv, fl, jt, put_ss, Nat.reduceEqDiff, if_false, if_true]
  by_cases h1 : a = 172
  · subst h1
    simp only [Nat.reduceEqDiff, if_true, if_false]
  · simp only [h1, if_false]
theorem rt_173 : rv p dep (jt j m) 173 k = j 173 k := (rfl)
theorem rtp_173 : put (rv p dep (jt j m)) 173 k v = rv p dep (jt (put j 173 k v) m) := by
  funext a k'
  simp only [rv, fl, jt, put_ss, Nat.reduceEqDiff, if_false, if_true]
  by_cases h1 : a = 173
  · subst h1
    simp only [Nat.reduceEqDiff, if_true, if_false]
  · simp only [h1, if_false]
theorem ft_173 : fl p dep (jt j m) 173 k = j 173 k := (rfl)
theorem ftp_173 : put (fl p dep (jt j m)) 173 k v = fl p dep (jt (put j 173 k v) m) := by
  funext a k'
  simp only [rv, fl, jt, put_ss, Nat.reduceEqDiff, if_false, if_true]
  by_cases h1 : a = 173
  · subst h1
    simp only [Nat.reduceEqDiff, if_true, if_false]
  · simp only [h1, if_false]
theorem rt_174 : rv p dep (jt j m) 174 k = j 174 k := (rfl)
theorem rtp_174 : put (rv p dep (jt j m)) 174 k v = rv p dep (jt (put j 174 k v) m) := by
  funext a k'
  simp only [rv, fl, jt, put_ss, Nat.reduceEqDiff, if_false, if_true]
  by_cases h1 : a = 174
  · subst h1
    simp only [Nat.reduceEqDiff, if_true, if_false]
  · simp only [h1, if_false]
theorem ft_174 : fl p dep (jt j m) 174 k = j 174 k := (rfl)
theorem ftp_174 : put (fl p dep (jt j m)) 174 k v = fl p dep (jt (put j 174 k v) m) := by
  funext a k'
  simp only [rv, fl, jt, put_ss, Nat.reduceEqDiff, if_false, if_true]
  by_cases h1 : a = 174
  · subst h1
    simp only [Nat.reduceEqDiff, if_true, if_false]
  · simp only [h1, if_false]
theorem rt_181 : rv p dep (jt j m) 181 k = j 181 k := (rfl)
theorem rtp_181 : put (rv p dep (jt j m)) 181 k v = rv p dep (jt (put j 181 k v) m) := by
  funext a k'
  simp only [rv, fl, jt, put_ss, Nat.reduceEqDiff, if_false, if_true]
  by_cases h1 : a = 181
  · subst h1
    simp only [Nat.reduceEqDiff, if_true, if_false]
  · simp only [h1, if_false]
theorem ft_181 : fl p dep (jt j m) 181 k = j 181 k := (rfl)
theorem ftp_181 : put (fl p dep (jt j m)) 181 k v = fl p dep (jt (put j 181 k v) m) := by
  funext a k'
  simp only [rv, fl, jt, put_ss, Nat.reduceEqDiff, if_false, if_true]
  by_cases h1 : a = 181
  · subst h1
    simp only [Nat.reduceEqDiff, if_true, if_false]
  · simp only [h1, if_false]
theorem rt_182 : rv p dep (jt j m) 182 k = j 182 k := (rfl)
theorem rtp_182 : put (rv p dep (jt j m)) 182 k v = rv p dep (jt (put j 182 k v) m) := by
  funext a k'
  simp only [rv, fl, jt, put_ss, Nat.reduceEqDiff, if_false, if_true]
  by_cases h1 : a = 182
  · subst h1
    simp only [Nat.reduceEqDiff, if_true, if_false]
  · simp only [h1, if_false]
theorem ft_182 : fl p dep (jt j m) 182 k = j 182 k := (rfl)
theorem ftp_182 : put (fl p dep (jt j m)) 182 k v = fl p dep (jt (put j 182 k v) m) := by
  funext a k'
  simp only [rv, fl, jt, put_ss, Nat.reduceEqDiff, if_false, if_true]
  by_cases h1 : a = 182
  · subst h1
    simp only [Nat.reduceEqDiff, if_true, if_false]
  · simp only [h1, if_false]
theorem rt_183 : rv p dep (jt j m) 183 k = j 183 k := (rfl)
theorem rtp_183 : put (rv p dep (jt j m)) 183 k v = rv p dep (jt (put j 183 k v) m) := by
  funext a k'
  simp only [rv, fl, jt, put_ss, Nat.reduceEqDiff, if_false, if_true]
  by_cases h1 : a = 183
  · subst h1
    simp only [Nat.reduceEqDiff, if_true, if_false]
  · simp only [h1, if_false]
theorem ft_183 : fl p dep (jt j m) 183 k = j 183 k := (rfl)
theorem ftp_183 : put (fl p dep (jt j m)) 183 k v = fl p dep (jt (put j 183 k v) m) := by
  funext a k'
  simp only [rv, fl, jt, put_ss, Nat.reduceEqDiff, if_false, if_true]
  by_cases h1 : a = 183
  · subst h1
    simp only [Nat.reduceEqDiff, if_true, if_false]
  · simp only [h1, if_false]
theorem rt_o : rv p dep (jt j m) 158 41 = m 158 41 := (rfl)
theorem ft_o : fl p dep (jt j m) 158 41 = m 158 41 := (rfl)
theorem rt_r : rv p dep (jt j m) 158 36 = m 158 36 := (rfl)
theorem ft_r : fl p dep (jt j m) 158 36 = m 158 36 := (rfl)
theorem rt_th : rv p dep (jt j m) 158 16 = m 158 16 := (rfl)
theorem ft_th : fl p dep (jt j m) 158 16 = m 158 16 := (rfl)
theorem jt_f : jt j m 158 14 = m 158 14 := (rfl)
theorem jt_b : jt j m 158 15 = m 158 15 := (rfl)
theorem jt_v : jt j m 163 k = m 163 k := (rfl)
theorem jt_k : jt j m 161 k = m 161 k := (rfl)
theorem jt_w : jt j m 162 k = m 162 k := (rfl)
theorem jb_self : jb m m = m := by
  funext a k
  unfold jb
  repeat' split
  all_goals rfl
theorem jb_jt {j' : Mem} : jb j' (jt j m) = jt (jb j' j) m := by
  funext a k
  simp only [jb, jt]
  by_cases h1 : a = 158
  · subst h1
    simp only [if_true, Nat.reduceEqDiff, if_false]
    by_cases h2 : k = 30
    · simp only [h2, Nat.reduceEqDiff, if_true, if_false]
    by_cases h3 : k = 31
    · simp only [h3, Nat.reduceEqDiff, if_true, if_false]
    by_cases h4 : k = 39
    · simp only [h4, Nat.reduceEqDiff, if_true, if_false]
    by_cases h5 : k = 40
    · simp only [h5, Nat.reduceEqDiff, if_true, if_false]
    by_cases h6 : k = 46
    · simp only [h6, Nat.reduceEqDiff, if_true, if_false]
    by_cases h7 : k = 48
    · simp only [h7, Nat.reduceEqDiff, if_true, if_false]
    simp only [h2, h3, h4, h5, h6, h7, if_false]
  · by_cases h8 : a = 172
    · subst h8
      simp only [Nat.reduceEqDiff, if_true, if_false]
    · by_cases h9 : a = 181
      · subst h9
        simp only [Nat.reduceEqDiff, if_true, if_false]
      · simp only [h1, h8, h9, if_false]
end Jt
theorem TK_jt {mc mr j : Mem} {e : Int} (T : TK mc mr e) : TK mc (jt j mr) e := T

/-- lists of names -/
def PN (K : Int → Int) : xT → Int → Int → Prop
  | .tag k (.nest i (.append _ b)) => fun p q => match k with
    | 45 => i = p ∧ K p = 2 ∧ q = p + 1 ∧ K q ≠ 44
    | 46 => i = p ∧ K p = 2 ∧ K (p + 1) = 44 ∧ PN K b (p + 2) q
    | _ => False
  | _ => fun _ _ => False
/-- what stands behind a proc's ( -/
def PH (K V : Int → Int) : xT → Int → Int → Prop
  | .tag k (.nest i (.append a (.tag k2 (.nest i2 (.append b c))))) => fun p q => k = 47 ∧ k2 = 48 ∧ ∃ r s u, ((i = 0 ∧ K p = 41 ∧ r = p) ∨ (i = 1 ∧ K p ≠ 41 ∧ PN K a p r)) ∧ K r = 41 ∧ ((i2 = 0 ∧ K (r + 1) ≠ 7 ∧ s = r + 1) ∨ (i2 = 1 ∧ K (r + 1) = 7 ∧ PN K b (r + 2) s)) ∧ u = s ∧ P K V c 8 0 u q
  | _ => fun _ _ => False
/-- a whole text, from token p to its end q -/
def PT (K V : Int → Int) : xT → Int → Int → Prop
  | .tag k (.nest i (.append a b)) => fun p q => match k with
    | 40 => p = q ∧ K p = 0
    | 41 => i = p ∧ K p = 4 ∧ K (p + 1) = 2 ∧ K (p + 2) = 59 ∧ PT K V b (p + 3) q
    | 42 => i = p ∧ K p = 4 ∧ K (p + 1) = 2 ∧ K (p + 2) = 91 ∧ K (p + 3) = 3 ∧ K (p + 4) = 93 ∧ K (p + 5) = 59 ∧ PT K V b (p + 6) q
    | 43 => i = p ∧ K p = 5 ∧ ∃ r, PN K a (p + 1) r ∧ K r = 59 ∧ PT K V b (r + 1) q
    | 44 => i = p ∧ K p = 6 ∧ K (p + 1) = 2 ∧ K (p + 2) = 40 ∧ ∃ r, PH K V a (p + 3) r ∧ PT K V b r q
    | _ => False
  | _ => fun _ _ => False
section PTl
variable {K V : Int → Int} {i i2 p q : Int} {a b c : xT}
theorem pn_45 : PN K (nd 45 i a b) p q = (i = p ∧ K p = 2 ∧ q = p + 1 ∧ K q ≠ 44) := (rfl)
theorem pn_46 : PN K (nd 46 i a b) p q = (i = p ∧ K p = 2 ∧ K (p + 1) = 44 ∧ PN K b (p + 2) q) := (rfl)
theorem ph_47 : PH K V (nd 47 i a (nd 48 i2 b c)) p q = ((47 : Nat) = 47 ∧ (48 : Nat) = 48 ∧ ∃ r s u, ((i = 0 ∧ K p = 41 ∧ r = p) ∨ (i = 1 ∧ K p ≠ 41 ∧ PN K a p r)) ∧ K r = 41 ∧ ((i2 = 0 ∧ K (r + 1) ≠ 7 ∧ s = r + 1) ∨ (i2 = 1 ∧ K (r + 1) = 7 ∧ PN K b (r + 2) s)) ∧ u = s ∧ P K V c 8 0 u q) := (rfl)
theorem pt_40 : PT K V (nd 40 i a b) p q = (p = q ∧ K p = 0) := (rfl)
theorem pt_41 : PT K V (nd 41 i a b) p q = (i = p ∧ K p = 4 ∧ K (p + 1) = 2 ∧ K (p + 2) = 59 ∧ PT K V b (p + 3) q) := (rfl)
theorem pt_42 : PT K V (nd 42 i a b) p q = (i = p ∧ K p = 4 ∧ K (p + 1) = 2 ∧ K (p + 2) = 91 ∧ K (p + 3) = 3 ∧ K (p + 4) = 93 ∧ K (p + 5) = 59 ∧ PT K V b (p + 6) q) := (rfl)
theorem pt_43 : PT K V (nd 43 i a b) p q = (i = p ∧ K p = 5 ∧ ∃ r, PN K a (p + 1) r ∧ K r = 59 ∧ PT K V b (r + 1) q) := (rfl)
theorem pt_44 : PT K V (nd 44 i a b) p q = (i = p ∧ K p = 6 ∧ K (p + 1) = 2 ∧ K (p + 2) = 40 ∧ ∃ r, PH K V a (p + 3) r ∧ PT K V b r q) := (rfl)
end PTl
/-! what is told at the top: of each name its code, kind, number; the numbers of vars, conditions, procs; whether a var is too large; the procs' parameters -/
abbrev tS6 : Type := List (Int × Int × Int) × Int × Int × Int × Bool × List Int
def sV (v : Int → Int) (p : Int) (s : tS6) : tS6 := (s.1 ++ [(v (p + 1), 1, s.2.1)], s.2.1 + 1, s.2.2.1, s.2.2.2.1, s.2.2.2.2.1, s.2.2.2.2.2)
def sA (v : Int → Int) (p : Int) (s : tS6) : tS6 := (s.1 ++ [(v (p + 1), 2, s.2.1)], s.2.1 + 1, s.2.2.1, s.2.2.2.1, s.2.2.2.2.1 || decide (v (p + 3) < 1) || decide (500 < v (p + 3)), s.2.2.2.2.2)
def sC (v : Int → Int) (p : Int) (s : tS6) : tS6 := (s.1 ++ [(v p, 3, s.2.2.1)], s.2.1, s.2.2.1 + 1, s.2.2.2.1, s.2.2.2.2.1, s.2.2.2.2.2)
def sP (v : Int → Int) (p : Int) (n : Int) (s : tS6) : tS6 := (s.1 ++ [(v (p + 1), 4, s.2.2.2.1)], s.2.1, s.2.2.1, s.2.2.2.1 + 1, s.2.2.2.2.1, s.2.2.2.2.2 ++ [n])
def sN (v : Int → Int) : xT → tS6 → tS6
  | .tag k (.nest i (.append _ b)) => fun s => match k with
    | 45 => sC v i s
    | _ => sN v b (sC v i s)
  | _ => fun s => s
def nN : xT → Int
  | .tag k (.nest _ (.append _ b)) => match k with
    | 45 => 1
    | _ => nN b + 1
  | _ => 0
def hN : xT → Int
  | .tag _ (.nest i (.append a _)) => if i = 0 then 0 else nN a
  | _ => 0
def sT (v : Int → Int) : xT → tS6 → tS6
  | .tag k (.nest i (.append a b)) => fun s => match k with
    | 41 => sT v b (sV v i s)
    | 42 => sT v b (sA v i s)
    | 43 => sT v b (sN v a s)
    | 44 => sT v b (sP v i (hN a) s)
    | _ => s
  | _ => fun s => s
def TS (j : Mem) (s : tS6) : Prop := j 158 17 = s.1.length ∧ (∀ i : Nat, i < s.1.length → j 165 i = (s.1.getD i (0, 0, 0)).1 ∧ j 166 i = (s.1.getD i (0, 0, 0)).2.1 ∧ j 167 i = (s.1.getD i (0, 0, 0)).2.2) ∧ j 158 21 = s.2.1 ∧ j 158 24 = s.2.2.1 ∧ j 158 25 = s.2.2.2.1 ∧ j 158 28 = (if s.2.2.2.2.1 then 1 else 0) ∧ s.2.2.2.1 = s.2.2.2.2.2.length ∧ (∀ i : Nat, i < s.2.2.2.2.2.length → j 170 i = s.2.2.2.2.2.getD i 0)
/-- how much was told, by the token where one stands -/
def TB (j : Mem) (p : Int) : Prop := 5 ≤ j 158 17 ∧ j 158 17 ≤ p + 5 ∧ 0 ≤ j 158 21 ∧ j 158 21 ≤ p ∧ 6 ≤ j 158 24 ∧ j 158 24 ≤ p + 6 ∧ 0 ≤ j 158 25 ∧ j 158 25 ≤ p ∧ 0 ≤ j 158 46 ∧ j 158 46 ≤ 2 * p ∧ (j 158 28 = 0 ∨ j 158 28 = 1) ∧ (0 : Int) ≤ 0 ∧ (0 : Int) < 1600 ∧ j 158 39 = 0 ∧ j 158 40 = 0

