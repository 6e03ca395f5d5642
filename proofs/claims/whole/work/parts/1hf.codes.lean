/-! COMPILE: every name that is told is one of the class's names -/
theorem hI_mk {M : Mem} {v V : Int → Int} {e : Int} {t : xT} (hV : VC M v e) (h5 : ∀ c ∈ fiveC, ∃ id : Nat, (id : Int) < M 57 4 ∧ M 58 id = c) (hP : PT (kd M) V t 0 e) : ∀ y ∈ cds (sT v t s6), ∃ id : Nat, (id : Int) < M 57 4 ∧ M 58 id = y := fun y hy => by
  rw [(sT_l (v := v) (tsz t + 1) t (by omega) 0 s6 hP).1, List.mem_append] at hy
  rcases hy with hy | hy
  · exact h5 y hy
  · obtain ⟨j, j0, j1, j2, rfl⟩ := cT_t (v := v) (tsz t + 1) t (by omega) 0 hP y hy
    obtain ⟨a, b, c⟩ := (hV j j0 j1).1 j2
    exact ⟨(idT M j).toNat, by omega, c⟩
theorem five_ok {m : Mem} {b : Nat → Int} {n : Int} (hn : n ≤ 1300) (Y : BY m b n) : ∀ c ∈ fiveC, ∃ id : Nat, (id : Int) < mcF m b n 57 4 ∧ mcF m b n 58 id = c := fun c hc => (mcF_ok hn Y).1.2.1.2.2.2 c hc
