/-! ALL METHODS -/
theorem mrL_ok : AllM 0 mrL := AllM_app (n := 50) rfl ma_0 (AllM_app (n := 28) rfl ma_1 (AllM_app (n := 25) rfl ma_2 (AllM_app (n := 40) rfl ma_3 (AllM_app (n := 32) rfl ma_4 (AllM_app (n := 29) rfl ma_5 (AllM_app (n := 28) rfl ma_6 (AllM_app (n := 17) rfl ma_7 (AllM_app (n := 7) rfl ma_8 (AllM_app (n := 25) rfl ma_9 (AllM_app (n := 5) rfl ma_10 (AllM_app (n := 18) rfl ma_11 (AllM_app (n := 2) rfl ma_12 (AllM_app (n := 7) rfl ma_13 (AllM_app (n := 4) rfl ma_14 (AllM_app (n := 1) rfl ma_15 (AllM_app (n := 16) rfl ma_16 (ma_17)))))))))))))))))
theorem pmt_ok : ∀ mi, MOK pmt mi := by
  intro mi nL ts rc rt t h
  have := mrL_ok mi (nL, ts, rc, rt, t) h
  rw [Nat.zero_add] at this
  exact this
