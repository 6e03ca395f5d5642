/-! WHAT IS LAID ARE WORDS of 16 bits -/
def IR (l : List It) : Prop := ∀ i, i ∈ l → ∀ (P N : Int → Int) (A : Int), 0 ≤ finW P N A i ∧ finW P N A i < 65536
theorem IR_app {l1 l2 : List It} (h1 : IR l1) (h2 : IR l2) : IR (l1 ++ l2) := fun i hi => (List.mem_append.1 hi).elim (h1 i) (h2 i)
theorem fin_lit {P N : Int → Int} {A w : Int} : finW P N A (lit w) = w := by
  unfold finW lit
  simp
theorem IR_m (ws : List Int) (h : ∀ w, w ∈ ws → 0 ≤ w ∧ w < 65536) : IR (ws.map lit) := fun i hi P N A => by
  obtain ⟨w, hw, rfl⟩ := List.mem_map.1 hi
  rw [fin_lit]
  exact h w hw
theorem wrd_r {o r a x : Int} (ho : 0 ≤ o ∧ o < 16) (hr : 0 ≤ r ∧ r < 8) (ha : 0 ≤ a ∧ a < 8) (hx : 4 < o ∨ 0 ≤ x ∧ x < 8) : 0 ≤ wrd o r a (lw o x) ∧ wrd o r a (lw o x) < 65536 := by
  unfold wrd lw
  by_cases c1 : o ≤ 4
  · rw [if_pos c1]; omega
  · rw [if_neg c1]
    by_cases c2 : o = 5 ∨ o = 13 ∨ o = 15
    · rw [if_pos c2]; omega
    · rw [if_neg c2]
      by_cases c3 : o = 7
      · rw [if_pos c3]; omega
      · rw [if_neg c3]
        by_cases c4 : o = 14
        · rw [if_pos c4]; omega
        · rw [if_neg c4]
          by_cases c5 : o = 8 ∨ o = 9 ∨ o = 10
          · rw [if_pos c5]; omega
          · rw [if_neg c5]; omega
theorem IR_L {o r a x : Int} (ho : 0 ≤ o ∧ o < 16) (hr : 0 ≤ r ∧ r < 8) (ha : 0 ≤ a ∧ a < 8) (hx : 4 < o ∨ 0 ≤ x ∧ x < 8) : IR (iL o r a x) := IR_m [wrd o r a (lw o x)] (fun w hw => by
  rw [List.mem_singleton] at hw
  rw [hw]
  exact wrd_r ho hr ha hx)
theorem cPl_r {r v : Int} (hr : 0 ≤ r ∧ r < 8) : ∀ w, w ∈ cPl r v → 0 ≤ w ∧ w < 65536 := fun w hw => by
  have hw : w ∈ [wrd 6 r 0 (v % 256), wrd 7 r 0 (v / 256 % 256)] := hw
  rw [List.mem_cons, List.mem_singleton] at hw
  rcases hw with rfl | rfl
  · unfold wrd; omega
  · unfold wrd; omega
theorem cCo_r {r v : Int} (hr : 0 ≤ r ∧ r < 8) : ∀ w, w ∈ cCo r v → 0 ≤ w ∧ w < 65536 := fun w hw => by
  unfold cCo at hw
  split at hw
  · rw [List.mem_singleton] at hw
    rw [hw]
    unfold wrd
    omega
  · exact cPl_r hr w hw
theorem cOn_r {r : Int} (hr : 0 ≤ r ∧ r < 8) : ∀ w, w ∈ cOn r → 0 ≤ w ∧ w < 65536 := fun w hw => by
  have hw : w ∈ [wrd 9 r 7 0, wrd 10 7 7 1] := hw
  rw [List.mem_cons, List.mem_singleton] at hw
  rcases hw with rfl | rfl
  · unfold wrd; omega
  · unfold wrd; omega
theorem cOff_r {r : Int} (hr : 0 ≤ r ∧ r < 8) : ∀ w, w ∈ cOff r → 0 ≤ w ∧ w < 65536 := fun w hw => by
  have hw : w ∈ [wrd 10 7 7 63, wrd 8 r 7 0] := hw
  rw [List.mem_cons, List.mem_singleton] at hw
  rcases hw with rfl | rfl
  · unfold wrd; omega
  · unfold wrd; omega
theorem IR_G {f : Bool} {lk : Int} : IR (iGo f lk) := fun i hi P N A => by
  cases f with
  | false =>
    have hi : i ∈ [((wrd 14 0 0 0, 1, lk) : It)] := hi
    rw [List.mem_singleton] at hi
    subst hi
    show 0 ≤ (14 * 4096 + 0 * 512 + 0 * 64 + 0 : Int) + (P lk - A - 1) % 4096 ∧ (14 * 4096 + 0 * 512 + 0 * 64 + 0 : Int) + (P lk - A - 1) % 4096 < 65536
    omega
  | true =>
    have hi : i ∈ [((wrd 6 5 0 0, 2, lk) : It), (wrd 7 5 0 0, 3, lk), lit (wrd 13 5 5 0)] := hi
    rw [List.mem_cons, List.mem_cons, List.mem_singleton] at hi
    rcases hi with rfl | rfl | rfl
    · show 0 ≤ (6 * 4096 + 5 * 512 + 0 * 64 + 0 : Int) + P lk % 256 ∧ (6 * 4096 + 5 * 512 + 0 * 64 + 0 : Int) + P lk % 256 < 65536
      omega
    · show 0 ≤ (7 * 4096 + 5 * 512 + 0 * 64 + 0 : Int) + P lk / 256 % 256 ∧ (7 * 4096 + 5 * 512 + 0 * 64 + 0 : Int) + P lk / 256 % 256 < 65536
      omega
    · rw [fin_lit]
      unfold wrd
      omega
theorem IR_N {r t : Int} (h0 : 0 ≤ r) (h1 : r < 8) : IR (iNt r t) := fun i hi P N A => by
  have hi : i ∈ [((wrd 6 r 0 0, 4, t) : It), (wrd 7 r 0 0, 5, t)] := hi
  rw [List.mem_cons, List.mem_singleton] at hi
  rcases hi with rfl | rfl
  · show 0 ≤ (6 * 4096 + r * 512 + 0 * 64 + 0 : Int) + N t % 256 ∧ (6 * 4096 + r * 512 + 0 * 64 + 0 : Int) + N t % 256 < 65536
    omega
  · show 0 ≤ (7 * 4096 + r * 512 + 0 * 64 + 0 : Int) + N t / 256 % 256 ∧ (7 * 4096 + r * 512 + 0 * 64 + 0 : Int) + N t / 256 % 256 < 65536
    omega
theorem IR_v : ∀ cs : List Int, IR (lvI cs)
  | [] => fun i hi => absurd hi List.not_mem_nil
  | c :: cs => IR_app (IR_app (IR_L (by omega) (by omega) (by omega) (by omega)) (IR_app (IR_L (by omega) (by omega) (by omega) (by omega)) (IR_L (by omega) (by omega) (by omega) (by omega)))) (IR_v cs)
theorem ir_0 {f0 f1 : Bool} {lk x y y2 y3 : Int} : IR (it_0 f0 f1 lk x y y2 y3) := IR_app (IR_app (IR_app (IR_app (IR_app (IR_app (IR_app (IR_app (IR_m _ (by first | exact cOn_r (by omega) | exact cOff_r (by omega) | exact cCo_r (by omega) | exact cPl_r (by omega))) (IR_L (by omega) (by omega) (by omega) (by omega))) (IR_L (by omega) (by omega) (by omega) (by omega))) (IR_L (by omega) (by omega) (by omega) (by omega))) (IR_L (by omega) (by omega) (by omega) (by omega))) (IR_L (by omega) (by omega) (by omega) (by omega))) (IR_L (by omega) (by omega) (by omega) (by omega))) (IR_L (by omega) (by omega) (by omega) (by omega))) (IR_L (by omega) (by omega) (by omega) (by omega))
theorem ir_1 {f0 f1 : Bool} {lk x y y2 y3 : Int} : IR (it_1 f0 f1 lk x y y2 y3) := IR_app (IR_m _ (by first | exact cOn_r (by omega) | exact cOff_r (by omega) | exact cCo_r (by omega) | exact cPl_r (by omega))) (IR_m _ (by first | exact cOn_r (by omega) | exact cOff_r (by omega) | exact cCo_r (by omega) | exact cPl_r (by omega)))
theorem ir_2 {f0 f1 : Bool} {lk x y y2 y3 : Int} : IR (it_2 f0 f1 lk x y y2 y3) := IR_app (IR_L (by omega) (by omega) (by omega) (by omega)) (IR_m _ (by first | exact cOn_r (by omega) | exact cOff_r (by omega) | exact cCo_r (by omega) | exact cPl_r (by omega)))
theorem ir_3 {f0 f1 : Bool} {lk x y y2 y3 : Int} : IR (it_3 f0 f1 lk x y y2 y3) := IR_app (IR_m _ (by first | exact cOn_r (by omega) | exact cOff_r (by omega) | exact cCo_r (by omega) | exact cPl_r (by omega))) (IR_L (by omega) (by omega) (by omega) (by omega))
theorem ir_4 {f0 f1 : Bool} {lk x y y2 y3 : Int} : IR (it_4 f0 f1 lk x y y2 y3) := IR_app (IR_app (IR_N (by decide) (by decide)) (IR_L (by omega) (by omega) (by omega) (by omega))) (IR_m _ (by first | exact cOn_r (by omega) | exact cOff_r (by omega) | exact cCo_r (by omega) | exact cPl_r (by omega)))
theorem ir_5 {f0 f1 : Bool} {lk x y y2 y3 : Int} : IR (it_5 f0 f1 lk x y y2 y3) := IR_app (IR_app (IR_m _ (by first | exact cOn_r (by omega) | exact cOff_r (by omega) | exact cCo_r (by omega) | exact cPl_r (by omega))) (IR_N (by decide) (by decide))) (IR_L (by omega) (by omega) (by omega) (by omega))
theorem ir_6 {f0 f1 : Bool} {lk x y y2 y3 : Int} : IR (it_6 f0 f1 lk x y y2 y3) := IR_app (IR_app (IR_app (IR_app (IR_app (IR_app (IR_app (IR_app (IR_app (IR_app (IR_app (IR_m _ (by first | exact cOn_r (by omega) | exact cOff_r (by omega) | exact cCo_r (by omega) | exact cPl_r (by omega))) (IR_m _ (by first | exact cOn_r (by omega) | exact cOff_r (by omega) | exact cCo_r (by omega) | exact cPl_r (by omega)))) (IR_L (by omega) (by omega) (by omega) (by omega))) (IR_L (by omega) (by omega) (by omega) (by omega))) (IR_L (by omega) (by omega) (by omega) (by omega))) (IR_L (by omega) (by omega) (by omega) (by omega))) (IR_L (by omega) (by omega) (by omega) (by omega))) (IR_G)) (IR_N (by decide) (by decide))) (IR_L (by omega) (by omega) (by omega) (by omega))) (IR_L (by omega) (by omega) (by omega) (by omega))) (IR_m _ (by first | exact cOn_r (by omega) | exact cOff_r (by omega) | exact cCo_r (by omega) | exact cPl_r (by omega)))
theorem ir_7 {f0 f1 : Bool} {lk x y y2 y3 : Int} : IR (it_7 f0 f1 lk x y y2 y3) := IR_app (IR_app (IR_app (IR_app (IR_app (IR_app (IR_app (IR_app (IR_app (IR_app (IR_app (IR_m _ (by first | exact cOn_r (by omega) | exact cOff_r (by omega) | exact cCo_r (by omega) | exact cPl_r (by omega))) (IR_m _ (by first | exact cOn_r (by omega) | exact cOff_r (by omega) | exact cCo_r (by omega) | exact cPl_r (by omega)))) (IR_m _ (by first | exact cOn_r (by omega) | exact cOff_r (by omega) | exact cCo_r (by omega) | exact cPl_r (by omega)))) (IR_L (by omega) (by omega) (by omega) (by omega))) (IR_L (by omega) (by omega) (by omega) (by omega))) (IR_L (by omega) (by omega) (by omega) (by omega))) (IR_L (by omega) (by omega) (by omega) (by omega))) (IR_L (by omega) (by omega) (by omega) (by omega))) (IR_G)) (IR_N (by decide) (by decide))) (IR_L (by omega) (by omega) (by omega) (by omega))) (IR_L (by omega) (by omega) (by omega) (by omega))
theorem ir_8 {f0 f1 : Bool} {lk x y y2 y3 : Int} : IR (it_8 f0 f1 lk x y y2 y3) := IR_app (IR_app (IR_app (IR_app (IR_app (IR_app (IR_app (IR_app (IR_app (IR_app (IR_m _ (by first | exact cOn_r (by omega) | exact cOff_r (by omega) | exact cCo_r (by omega) | exact cPl_r (by omega))) (IR_m _ (by first | exact cOn_r (by omega) | exact cOff_r (by omega) | exact cCo_r (by omega) | exact cPl_r (by omega)))) (IR_L (by omega) (by omega) (by omega) (by omega))) (IR_L (by omega) (by omega) (by omega) (by omega))) (IR_L (by omega) (by omega) (by omega) (by omega))) (IR_L (by omega) (by omega) (by omega) (by omega))) (IR_L (by omega) (by omega) (by omega) (by omega))) (IR_L (by omega) (by omega) (by omega) (by omega))) (IR_L (by omega) (by omega) (by omega) (by omega))) (IR_G)) (IR_m _ (by first | exact cOn_r (by omega) | exact cOff_r (by omega) | exact cCo_r (by omega) | exact cPl_r (by omega)))
theorem ir_9 {f0 f1 : Bool} {lk x y y2 y3 : Int} : IR (it_9 f0 f1 lk x y y2 y3) := IR_app (IR_app (IR_app (IR_app (IR_app (IR_app (IR_app (IR_app (IR_app (IR_app (IR_m _ (by first | exact cOn_r (by omega) | exact cOff_r (by omega) | exact cCo_r (by omega) | exact cPl_r (by omega))) (IR_m _ (by first | exact cOn_r (by omega) | exact cOff_r (by omega) | exact cCo_r (by omega) | exact cPl_r (by omega)))) (IR_L (by omega) (by omega) (by omega) (by omega))) (IR_L (by omega) (by omega) (by omega) (by omega))) (IR_L (by omega) (by omega) (by omega) (by omega))) (IR_L (by omega) (by omega) (by omega) (by omega))) (IR_L (by omega) (by omega) (by omega) (by omega))) (IR_L (by omega) (by omega) (by omega) (by omega))) (IR_L (by omega) (by omega) (by omega) (by omega))) (IR_G)) (IR_m _ (by first | exact cOn_r (by omega) | exact cOff_r (by omega) | exact cCo_r (by omega) | exact cPl_r (by omega)))
theorem ir_10 {f0 f1 : Bool} {lk x y y2 y3 : Int} : IR (it_10 f0 f1 lk x y y2 y3) := IR_app (IR_app (IR_app (IR_app (IR_app (IR_app (IR_m _ (by first | exact cOn_r (by omega) | exact cOff_r (by omega) | exact cCo_r (by omega) | exact cPl_r (by omega))) (IR_m _ (by first | exact cOn_r (by omega) | exact cOff_r (by omega) | exact cCo_r (by omega) | exact cPl_r (by omega)))) (IR_m _ (by first | exact cOn_r (by omega) | exact cOff_r (by omega) | exact cCo_r (by omega) | exact cPl_r (by omega)))) (IR_L (by omega) (by omega) (by omega) (by omega))) (IR_L (by omega) (by omega) (by omega) (by omega))) (IR_G)) (IR_m _ (by first | exact cOn_r (by omega) | exact cOff_r (by omega) | exact cCo_r (by omega) | exact cPl_r (by omega)))
theorem ir_11 {f0 f1 : Bool} {lk x y y2 y3 : Int} : IR (it_11 f0 f1 lk x y y2 y3) := IR_app (IR_app (IR_app (IR_app (IR_app (IR_app (IR_app (IR_app (IR_app (IR_app (IR_app (IR_app (IR_m _ (by first | exact cOn_r (by omega) | exact cOff_r (by omega) | exact cCo_r (by omega) | exact cPl_r (by omega))) (IR_m _ (by first | exact cOn_r (by omega) | exact cOff_r (by omega) | exact cCo_r (by omega) | exact cPl_r (by omega)))) (IR_m _ (by first | exact cOn_r (by omega) | exact cOff_r (by omega) | exact cCo_r (by omega) | exact cPl_r (by omega)))) (IR_L (by omega) (by omega) (by omega) (by omega))) (IR_L (by omega) (by omega) (by omega) (by omega))) (IR_G)) (IR_L (by omega) (by omega) (by omega) (by omega))) (IR_L (by omega) (by omega) (by omega) (by omega))) (IR_L (by omega) (by omega) (by omega) (by omega))) (IR_L (by omega) (by omega) (by omega) (by omega))) (IR_L (by omega) (by omega) (by omega) (by omega))) (IR_G)) (IR_m _ (by first | exact cOn_r (by omega) | exact cOff_r (by omega) | exact cCo_r (by omega) | exact cPl_r (by omega)))
theorem ir_12 {f0 f1 : Bool} {lk x y y2 y3 : Int} : IR (it_12 f0 f1 lk x y y2 y3) := IR_app (IR_app (IR_app (IR_app (IR_app (IR_app (IR_m _ (by first | exact cOn_r (by omega) | exact cOff_r (by omega) | exact cCo_r (by omega) | exact cPl_r (by omega))) (IR_m _ (by first | exact cOn_r (by omega) | exact cOff_r (by omega) | exact cCo_r (by omega) | exact cPl_r (by omega)))) (IR_m _ (by first | exact cOn_r (by omega) | exact cOff_r (by omega) | exact cCo_r (by omega) | exact cPl_r (by omega)))) (IR_L (by omega) (by omega) (by omega) (by omega))) (IR_L (by omega) (by omega) (by omega) (by omega))) (IR_G)) (IR_m _ (by first | exact cOn_r (by omega) | exact cOff_r (by omega) | exact cCo_r (by omega) | exact cPl_r (by omega)))
theorem ir_13 {f0 f1 : Bool} {lk x y y2 y3 : Int} : IR (it_13 f0 f1 lk x y y2 y3) := IR_app (IR_app (IR_app (IR_app (IR_app (IR_app (IR_app (IR_app (IR_app (IR_app (IR_m _ (by first | exact cOn_r (by omega) | exact cOff_r (by omega) | exact cCo_r (by omega) | exact cPl_r (by omega))) (IR_L (by omega) (by omega) (by omega) (by omega))) (IR_L (by omega) (by omega) (by omega) (by omega))) (IR_L (by omega) (by omega) (by omega) (by omega))) (IR_L (by omega) (by omega) (by omega) (by omega))) (IR_L (by omega) (by omega) (by omega) (by omega))) (IR_L (by omega) (by omega) (by omega) (by omega))) (IR_L (by omega) (by omega) (by omega) (by omega))) (IR_L (by omega) (by omega) (by omega) (by omega))) (IR_G)) (IR_m _ (by first | exact cOn_r (by omega) | exact cOff_r (by omega) | exact cCo_r (by omega) | exact cPl_r (by omega)))
theorem ir_15 {f0 f1 : Bool} {lk x y y2 y3 : Int} : IR (it_15 f0 f1 lk x y y2 y3) := IR_G
theorem ir_16 {f0 f1 : Bool} {lk x y y2 y3 : Int} : IR (it_16 f0 f1 lk x y y2 y3) := IR_app (IR_app (IR_app (IR_m _ (by first | exact cOn_r (by omega) | exact cOff_r (by omega) | exact cCo_r (by omega) | exact cPl_r (by omega))) (IR_L (by omega) (by omega) (by omega) (by omega))) (IR_L (by omega) (by omega) (by omega) (by omega))) (IR_G)
theorem ir_17 {f0 f1 : Bool} {lk x y y2 y3 : Int} : IR (it_17 f0 f1 lk x y y2 y3) := IR_app (IR_app (IR_app (IR_app (IR_N (by decide) (by decide)) (IR_L (by omega) (by omega) (by omega) (by omega))) (IR_L (by omega) (by omega) (by omega) (by omega))) (IR_G)) (IR_m _ (by first | exact cOn_r (by omega) | exact cOff_r (by omega) | exact cCo_r (by omega) | exact cPl_r (by omega)))
theorem ir_18 {f0 f1 : Bool} {lk x y y2 y3 : Int} : IR (it_18 f0 f1 lk x y y2 y3) := (IR_L (by omega) (by omega) (by omega) (by omega))
theorem ir_19 {f0 f1 : Bool} {lk x y y2 y3 : Int} : IR (it_19 f0 f1 lk x y y2 y3) := IR_app (IR_app (IR_app (IR_app (IR_app (IR_app (IR_app (IR_m _ (by first | exact cOn_r (by omega) | exact cOff_r (by omega) | exact cCo_r (by omega) | exact cPl_r (by omega))) (IR_L (by omega) (by omega) (by omega) (by omega))) (IR_L (by omega) (by omega) (by omega) (by omega))) (IR_L (by omega) (by omega) (by omega) (by omega))) (IR_L (by omega) (by omega) (by omega) (by omega))) (IR_G)) (IR_L (by omega) (by omega) (by omega) (by omega))) (IR_m _ (by first | exact cOn_r (by omega) | exact cOff_r (by omega) | exact cCo_r (by omega) | exact cPl_r (by omega)))
theorem ir_20 {f0 f1 : Bool} {lk x y y2 y3 : Int} : IR (it_20 f0 f1 lk x y y2 y3) := IR_app (IR_app (IR_m _ (by first | exact cOn_r (by omega) | exact cOff_r (by omega) | exact cCo_r (by omega) | exact cPl_r (by omega))) (IR_m _ (by first | exact cOn_r (by omega) | exact cOff_r (by omega) | exact cCo_r (by omega) | exact cPl_r (by omega)))) (IR_L (by omega) (by omega) (by omega) (by omega))
theorem ir_21 {f0 f1 : Bool} {lk x y y2 y3 : Int} : IR (it_21 f0 f1 lk x y y2 y3) := IR_app (IR_L (by omega) (by omega) (by omega) (by omega)) (IR_G)
theorem ir_22 {f0 f1 : Bool} {lk x y y2 y3 : Int} : IR (it_22 f0 f1 lk x y y2 y3) := IR_app (IR_app (IR_app (IR_app (IR_app (IR_m _ (by first | exact cOn_r (by omega) | exact cOff_r (by omega) | exact cCo_r (by omega) | exact cPl_r (by omega))) (IR_L (by omega) (by omega) (by omega) (by omega))) (IR_L (by omega) (by omega) (by omega) (by omega))) (IR_L (by omega) (by omega) (by omega) (by omega))) (IR_L (by omega) (by omega) (by omega) (by omega))) (IR_L (by omega) (by omega) (by omega) (by omega))
theorem ir_23 {f0 f1 : Bool} {lk x y y2 y3 : Int} : IR (it_23 f0 f1 lk x y y2 y3) := (IR_L (by omega) (by omega) (by omega) (by omega))
theorem ir_24 {f0 f1 : Bool} {lk x y y2 y3 : Int} : IR (it_24 f0 f1 lk x y y2 y3) := IR_app (IR_app (IR_app (IR_app (IR_app (IR_L (by omega) (by omega) (by omega) (by omega)) (IR_L (by omega) (by omega) (by omega) (by omega))) (IR_L (by omega) (by omega) (by omega) (by omega))) (IR_L (by omega) (by omega) (by omega) (by omega))) (IR_L (by omega) (by omega) (by omega) (by omega))) (IR_G)
theorem ir_25 {f0 f1 : Bool} {lk x y y2 y3 : Int} : IR (it_25 f0 f1 lk x y y2 y3) := IR_G
theorem ir_14_0 {f0 f1 : Bool} {lk x y y2 y3 : Int} : IR (it_14_0 f0 f1 lk x y y2 y3) := IR_app (IR_app (IR_app (IR_m _ (by first | exact cOn_r (by omega) | exact cOff_r (by omega) | exact cCo_r (by omega) | exact cPl_r (by omega))) (IR_m _ (by first | exact cOn_r (by omega) | exact cOff_r (by omega) | exact cCo_r (by omega) | exact cPl_r (by omega)))) (IR_L (by omega) (by omega) (by omega) (by omega))) (IR_m _ (by first | exact cOn_r (by omega) | exact cOff_r (by omega) | exact cCo_r (by omega) | exact cPl_r (by omega)))
theorem ir_14_1 {f0 f1 : Bool} {lk x y y2 y3 : Int} : IR (it_14_1 f0 f1 lk x y y2 y3) := IR_app (IR_app (IR_app (IR_m _ (by first | exact cOn_r (by omega) | exact cOff_r (by omega) | exact cCo_r (by omega) | exact cPl_r (by omega))) (IR_m _ (by first | exact cOn_r (by omega) | exact cOff_r (by omega) | exact cCo_r (by omega) | exact cPl_r (by omega)))) (IR_L (by omega) (by omega) (by omega) (by omega))) (IR_m _ (by first | exact cOn_r (by omega) | exact cOff_r (by omega) | exact cCo_r (by omega) | exact cPl_r (by omega)))
theorem ir_14_2 {f0 f1 : Bool} {lk x y y2 y3 : Int} : IR (it_14_2 f0 f1 lk x y y2 y3) := IR_app (IR_app (IR_app (IR_app (IR_app (IR_m _ (by first | exact cOn_r (by omega) | exact cOff_r (by omega) | exact cCo_r (by omega) | exact cPl_r (by omega))) (IR_m _ (by first | exact cOn_r (by omega) | exact cOff_r (by omega) | exact cCo_r (by omega) | exact cPl_r (by omega)))) (IR_L (by omega) (by omega) (by omega) (by omega))) (IR_L (by omega) (by omega) (by omega) (by omega))) (IR_L (by omega) (by omega) (by omega) (by omega))) (IR_m _ (by first | exact cOn_r (by omega) | exact cOff_r (by omega) | exact cCo_r (by omega) | exact cPl_r (by omega)))
theorem ir_14_3 {f0 f1 : Bool} {lk x y y2 y3 : Int} : IR (it_14_3 f0 f1 lk x y y2 y3) := IR_app (IR_app (IR_app (IR_app (IR_app (IR_m _ (by first | exact cOn_r (by omega) | exact cOff_r (by omega) | exact cCo_r (by omega) | exact cPl_r (by omega))) (IR_m _ (by first | exact cOn_r (by omega) | exact cOff_r (by omega) | exact cCo_r (by omega) | exact cPl_r (by omega)))) (IR_L (by omega) (by omega) (by omega) (by omega))) (IR_L (by omega) (by omega) (by omega) (by omega))) (IR_L (by omega) (by omega) (by omega) (by omega))) (IR_m _ (by first | exact cOn_r (by omega) | exact cOff_r (by omega) | exact cCo_r (by omega) | exact cPl_r (by omega)))
theorem ir_14_4 {f0 f1 : Bool} {lk x y y2 y3 : Int} : IR (it_14_4 f0 f1 lk x y y2 y3) := IR_app (IR_app (IR_app (IR_app (IR_app (IR_app (IR_m _ (by first | exact cOn_r (by omega) | exact cOff_r (by omega) | exact cCo_r (by omega) | exact cPl_r (by omega))) (IR_m _ (by first | exact cOn_r (by omega) | exact cOff_r (by omega) | exact cCo_r (by omega) | exact cPl_r (by omega)))) (IR_L (by omega) (by omega) (by omega) (by omega))) (IR_L (by omega) (by omega) (by omega) (by omega))) (IR_L (by omega) (by omega) (by omega) (by omega))) (IR_L (by omega) (by omega) (by omega) (by omega))) (IR_m _ (by first | exact cOn_r (by omega) | exact cOff_r (by omega) | exact cCo_r (by omega) | exact cPl_r (by omega)))
theorem ir_14_5 {f0 f1 : Bool} {lk x y y2 y3 : Int} : IR (it_14_5 f0 f1 lk x y y2 y3) := IR_app (IR_app (IR_app (IR_app (IR_app (IR_app (IR_m _ (by first | exact cOn_r (by omega) | exact cOff_r (by omega) | exact cCo_r (by omega) | exact cPl_r (by omega))) (IR_m _ (by first | exact cOn_r (by omega) | exact cOff_r (by omega) | exact cCo_r (by omega) | exact cPl_r (by omega)))) (IR_L (by omega) (by omega) (by omega) (by omega))) (IR_L (by omega) (by omega) (by omega) (by omega))) (IR_L (by omega) (by omega) (by omega) (by omega))) (IR_L (by omega) (by omega) (by omega) (by omega))) (IR_m _ (by first | exact cOn_r (by omega) | exact cOff_r (by omega) | exact cCo_r (by omega) | exact cPl_r (by omega)))
theorem ir_B {f0 f1 : Bool} {lk x y y2 y3 : Int} : IR (it_B f0 f1 lk x y y2 y3) := IR_app (IR_app (IR_app (IR_app (IR_app (IR_L (by omega) (by omega) (by omega) (by omega)) (IR_L (by omega) (by omega) (by omega) (by omega))) (IR_L (by omega) (by omega) (by omega) (by omega))) (IR_L (by omega) (by omega) (by omega) (by omega))) (IR_L (by omega) (by omega) (by omega) (by omega))) (IR_L (by omega) (by omega) (by omega) (by omega))
theorem itO_ir {o : Int} {f0 f1 : Bool} {lk x y y2 y3 : Int} {cs : List Int} (ho : 0 ≤ o ∧ o ≤ 26) (h14 : o = 14 → 0 ≤ x ∧ x ≤ 5) : IR (itO o f0 f1 lk x y y2 y3 cs) := by
  have hcs : o = 0 ∨ o = 1 ∨ o = 2 ∨ o = 3 ∨ o = 4 ∨ o = 5 ∨ o = 6 ∨ o = 7 ∨ o = 8 ∨ o = 9 ∨ o = 10 ∨ o = 11 ∨ o = 12 ∨ o = 13 ∨ o = 14 ∨ o = 15 ∨ o = 16 ∨ o = 17 ∨ o = 18 ∨ o = 19 ∨ o = 20 ∨ o = 21 ∨ o = 22 ∨ o = 23 ∨ o = 24 ∨ o = 25 ∨ o = 26 := by omega
  rcases hcs with h | h | h | h | h | h | h | h | h | h | h | h | h | h | h | h | h | h | h | h | h | h | h | h | h | h | h
  · subst h
    rw [itO_0]; exact ir_0
  · subst h
    rw [itO_1]; exact ir_1
  · subst h
    rw [itO_2]; exact ir_2
  · subst h
    rw [itO_3]; exact ir_3
  · subst h
    rw [itO_4]; exact ir_4
  · subst h
    rw [itO_5]; exact ir_5
  · subst h
    rw [itO_6]; exact ir_6
  · subst h
    rw [itO_7]; exact ir_7
  · subst h
    rw [itO_8]; exact ir_8
  · subst h
    rw [itO_9]; exact ir_9
  · subst h
    rw [itO_10]; exact ir_10
  · subst h
    rw [itO_11]; exact ir_11
  · subst h
    rw [itO_12]; exact ir_12
  · subst h
    rw [itO_13]; exact ir_13
  · subst h
    obtain ⟨h5, h6⟩ := h14 rfl
    have hcz : x = 0 ∨ x = 1 ∨ x = 2 ∨ x = 3 ∨ x = 4 ∨ x = 5 := by omega
    rcases hcz with hz | hz | hz | hz | hz | hz
    · subst hz
      rw [itO_14_0]; exact ir_14_0
    · subst hz
      rw [itO_14_1]; exact ir_14_1
    · subst hz
      rw [itO_14_2]; exact ir_14_2
    · subst hz
      rw [itO_14_3]; exact ir_14_3
    · subst hz
      rw [itO_14_4]; exact ir_14_4
    · subst hz
      rw [itO_14_5]; exact ir_14_5
  · subst h
    rw [itO_15]; exact ir_15
  · subst h
    rw [itO_16]; exact ir_16
  · subst h
    rw [itO_17]; exact ir_17
  · subst h
    rw [itO_18]; exact ir_18
  · subst h
    rw [itO_19]; exact ir_19
  · subst h
    rw [itO_20]; exact ir_20
  · subst h
    rw [itO_21]; exact ir_21
  · subst h
    rw [itO_22]; exact ir_22
  · subst h
    rw [itO_23]; exact ir_23
  · subst h
    rw [itO_24]; exact ir_24
  · subst h
    rw [itO_25]; exact ir_25
  · subst h
    rw [itO_26]; exact IR_app (IR_v cs) ir_B
theorem tb_r1 : ∀ w, w ∈ tbL tv_1 0 30 → 0 ≤ w ∧ w < 65536 := by decide +kernel
theorem tb_r2 : ∀ w, w ∈ tbL tv_2 0 44 → 0 ≤ w ∧ w < 65536 := by decide +kernel
theorem IR_hd {e : Int} : IR (hdI e) := by
  unfold hdI
  exact IR_app (IR_L (by omega) (by omega) (by omega) (by omega)) (IR_app (IR_N (by decide) (by decide)) (IR_app (IR_L (by omega) (by omega) (by omega) (by omega)) (IR_app (IR_N (by decide) (by decide)) (IR_app (IR_L (by omega) (by omega) (by omega) (by omega)) (IR_app (IR_L (by omega) (by omega) (by omega) (by omega)) (IR_app (IR_m _ tb_r1) (IR_m _ tb_r2)))))))
theorem IR_ml {M : Mem} {n : Nat} (hO : OK0 M n) : ∀ i, i ≤ n → IR (mlI M 0 i)
  | 0 => fun _ => fun i hi => absurd hi List.not_mem_nil
  | i + 1 => fun hi => by
    obtain ⟨o1, o2, o3, o4, o5, o6⟩ := hO i (by omega)
    show IR (mlI M 0 i ++ dM M 0 (ngo (mlI M 0 i)) i)
    exact IR_app (IR_ml hO i (by omega)) (itO_ir o1 o4)
theorem IR_A {M : Mem} {n : Nat} {E : Nat → Int} {e : Int} (hO : OK0 M n) : IR (itA M E e n) := by
  unfold itA
  exact IR_app IR_hd (IR_ml (M := fv E M) hO n (Nat.le_refl _))
theorem WdOk_r {P N : Int → Int} {W : Nat → Int} : ∀ (l : List It) (A : Int), 0 ≤ A → IR l → WdOk P N W l A → ∀ k : Nat, A ≤ (k : Int) → (k : Int) < A + (l.length : Int) → 0 ≤ W k ∧ W k < 65536
  | [], A, _, _, _, k, h1, h2 => by
    rw [List.length_nil] at h2
    omega
  | i :: l, A, h0, hi, hw, k, h1, h2 => by
    rw [List.length_cons] at h2
    obtain ⟨w1, w2⟩ := hw
    by_cases c : (k : Int) = A
    · have e : A.toNat = k := by omega
      rw [e] at w1
      rw [w1]
      exact hi i List.mem_cons_self P N A
    · exact WdOk_r l (A + 1) (by omega) (fun q hq => hi q (List.mem_cons_of_mem _ hq)) w2 k (by omega) (by omega)
