/-! THE MODEL'S SECOND WALK: bounds kept -/
theorem WU_Fm {m m' : Mem} {n : Int} (U : WU m) (f : Fm m m' n) (h : m 158 41 + n < 11900) : WU m' := by
  obtain ⟨u1, u2, u3, u4, u5, u6, u7, u8⟩ := U
  have g17 := f.2.1 17 (by decide) (by decide) (by decide) (by decide) (by decide) (by decide) (by decide)
  have g30 := f.2.1 30 (by decide) (by decide) (by decide) (by decide) (by decide) (by decide) (by decide)
  have g14 := f.2.1 14 (by decide) (by decide) (by decide) (by decide) (by decide) (by decide) (by decide)
  have g41 := f.2.2.1
  have g41b := f.2.2.2.1
  exact ⟨by omega, by omega, by omega, by omega, by omega, f.2.2.2.2, by omega, by omega⟩
theorem topK_Fm {m m' : Mem} {n c : Int} (f : Fm m m' n) : topK m' c = topK m c := by
  unfold topK
  have e1 : m' 165 = m 165 := funext fun k => f.1 165 k (by omega)
  rw [e1, f.2.1 17 (by decide) (by decide) (by decide) (by decide) (by decide) (by decide) (by decide)]
theorem lcK_Fm {m m' : Mem} {n c : Int} (f : Fm m m' n) : lcK m' c = lcK m c := by
  unfold lcK
  have e1 : m' 172 = m 172 := funext fun k => f.1 172 k (by omega)
  rw [e1, f.2.1 30 (by decide) (by decide) (by decide) (by decide) (by decide) (by decide) (by decide)]
theorem inX_Fm {m m' : Mem} {n c : Int} (f : Fm m m' n) : inX m' c = inX m c := by
  unfold inX
  rw [topK_Fm f, f.1 167 _ (by omega)]
theorem isK_Fm {m m' : Mem} {n c k : Int} (f : Fm m m' n) : isK m' c k ↔ isK m c k := by
  unfold isK
  rw [topK_Fm f, f.1 166 _ (by omega)]
theorem vlT_Fm {m m' : Mem} {n i : Int} (f : Fm m m' n) : vlT m' i = vlT m i := f.1 163 _ (by omega)
theorem plT_Fm {m m' : Mem} {n i : Int} (f : Fm m m' n) : plT m' i = plT m i := f.1 162 _ (by omega)
theorem TR_Fm {m m' : Mem} {n c i : Int} (f : Fm m m' n) (h : TR c (m 161 i.toNat) (m 163 i.toNat)) : TR c (m' 161 i.toNat) (m' 163 i.toNat) := by
  rw [f.1 161 _ (by omega), f.1 163 _ (by omega)]
  exact h
