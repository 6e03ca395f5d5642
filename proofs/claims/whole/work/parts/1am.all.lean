/-! CLASS AND MODEL, THE SECOND WALK: all statements -/
section Alls
variable {F : Nat} {mc : Mem} {e : Int}
theorem Qs_st {t : xT} (hF : 100000 ≤ F) (hB : ∀ a, tsz a < tsz t → Qst 230 8 0 2 F mc e a) (hW : ∀ a, tsz a < tsz t → QsW F mc e a) : Qst 231 10 3 0 F mc e t := by
  intro V dep p q h hd0 hd1 hp hq L xs d m s y σ D H G S R hs0 hb h41 hlab hD hd
  rcases inv_10 h with ⟨i, a, b, rfl, h1, h3, h5, h6, r, h8, h9, h10⟩ | ⟨i, a, b, rfl, h1, h3, r, h8, h9, h10⟩ | ⟨i, a, b, rfl, h1, h3, h5, r, h8, h9, h10⟩ | ⟨i, a, b, rfl, h1, h3, h5, h6, r, u, h8, h9, h10, h11, h12, h13⟩ | ⟨i, a, b, rfl, h1, r, h8, h9, h10⟩ | ⟨i, a, b, rfl, h1, r, h8, h9⟩ | ⟨i, a, b, rfl, h1, r, h8, h9⟩ | ⟨i, a, b, rfl, h1, r, h8, h9, h10⟩ | ⟨i, a, b, rfl, h1, h3, h5, h6, h8⟩ | ⟨i, a, b, rfl, h1, r, h8, h9, h10⟩ | ⟨i, a, b, rfl, h1, r, h8, h9, h10⟩
  · exact st_23 hF hd0 hd1 hp hq S R hs0 hb h41 hlab hD (by omega) h1 h3 h5 h6 h8 h9 h10
  · exact st_24 hF hd0 hd1 hp hq S R hs0 hb h41 hlab hD (by omega) h1 h3 h8 h9 h10
  · exact st_25 hF hd0 hd1 hp hq S R hs0 hb h41 hlab hD (by omega) h1 h3 h5 h8 h9 h10
  · exact st_26 hF hd0 hd1 hp hq S R hs0 hb h41 hlab hD (by omega) h1 h3 h5 h6 h8 h9 h10 h11 h12 h13
  · exact st_27 hF hd0 hd1 hp hq S R hs0 hb h41 hlab hD (by omega) h1 h8 h9 h10 (hB b (by rw [tsz_nd]; omega))
  · obtain ⟨i2, b1, b2, rfl, u, g1, g2, g3⟩ := inv_12 h9
    exact st_28 hF hd0 hd1 hp hq S R hs0 hb h41 hlab hD (by omega) h1 h8 g1 g2 g3 rfl (hB b1 (by rw [tsz_nd, tsz_nd]; omega)) (hB b2 (by rw [tsz_nd, tsz_nd]; omega))
  · exact st_29 hF hd0 hd1 hp hq S R hs0 hb h41 hlab hD (by omega) h1 h8 h9 (hB b (by rw [tsz_nd]; omega))
  · exact st_30 hF hd0 hd1 hp hq S R hs0 hb h41 hlab hD (by omega) h1 h8 h9 h10 (hB a (by rw [tsz_nd]; omega)) (hW b (by rw [tsz_nd]; omega))
  · exact st_33 (V := V) hF hd0 hd1 hp hq S R hs0 hb h41 hlab hD (by omega) h1 h3 h5 h6 h8
  · exact st_34 hF hd0 hd1 hp hq S R hs0 hb h41 hlab hD (by omega) h1 h8 h9 h10
  · exact st_35 hF hd0 hd1 hp hq S R hs0 hb h41 hlab hD (by omega) h1 h8 h9 h10
theorem QsAll (hF : 100000 ≤ F) : ∀ (n : Nat) (t : xT), tsz t < n → Qst 231 10 3 0 F mc e t ∧ Qst 230 8 0 2 F mc e t ∧ QsL F mc e t ∧ QsW F mc e t
  | 0, _, h => absurd h (Nat.not_lt_zero _)
  | n + 1, t, hn => by
    have ih : ∀ a, tsz a < tsz t → _ := fun a ha => QsAll hF n a (by omega)
    exact ⟨Qs_st hF (fun a ha => (ih a ha).2.1) (fun a ha => (ih a ha).2.2.2), QsB_ok hF (fun a ha => (ih a ha).2.2.1), QsL_ok hF (fun a ha => (ih a ha).1) (fun a ha => (ih a ha).2.2.1), QsW_ok hF (fun a ha => (ih a ha).2.1) (fun a ha => (ih a ha).2.2.2)⟩
end Alls
