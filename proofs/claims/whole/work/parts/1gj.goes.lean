/-! WHERE THE GOES AND NOTES OF AN ORDER POINT -/
def GN (lk : Int) (T : Int → Prop) (l : List It) : Prop := ∀ i, i ∈ l → (isG i → i.2.2 = lk) ∧ (i.2.1 = 4 → T i.2.2)
theorem GN_app {lk : Int} {T : Int → Prop} {l1 l2 : List It} (h1 : GN lk T l1) (h2 : GN lk T l2) : GN lk T (l1 ++ l2) := fun i hi => (List.mem_append.1 hi).elim (h1 i) (h2 i)
theorem GN_m {lk : Int} {T : Int → Prop} (ws : List Int) : GN lk T (ws.map lit) := fun i hi => by
  obtain ⟨w, _, rfl⟩ := List.mem_map.1 hi
  refine ⟨fun h => ?_, fun h => ?_⟩
  · have h : (0 : Int) = 1 ∨ (0 : Int) = 2 := h
    omega
  · have h : (0 : Int) = 4 := h
    omega
theorem GN_L {lk a b c d : Int} {T : Int → Prop} : GN lk T (iL a b c d) := GN_m [wrd a b c (lw a d)]
theorem GN_G {lk : Int} {T : Int → Prop} {f : Bool} : GN lk T (iGo f lk) := fun i hi => by
  cases f with
  | false =>
    have hi : i ∈ [((wrd 14 0 0 0, 1, lk) : It)] := hi
    rw [List.mem_singleton] at hi
    subst hi
    refine ⟨fun _ => rfl, fun h => ?_⟩
    have h : (1 : Int) = 4 := h
    omega
  | true =>
    have hi : i ∈ [((wrd 6 5 0 0, 2, lk) : It), (wrd 7 5 0 0, 3, lk), lit (wrd 13 5 5 0)] := hi
    rw [List.mem_cons, List.mem_cons, List.mem_singleton] at hi
    rcases hi with rfl | rfl | rfl
    · refine ⟨fun _ => rfl, fun h => ?_⟩
      have h : (2 : Int) = 4 := h
      omega
    · refine ⟨fun _ => rfl, fun h => ?_⟩
      have h : (3 : Int) = 4 := h
      omega
    · refine ⟨fun h => ?_, fun h => ?_⟩
      · have h : (0 : Int) = 1 ∨ (0 : Int) = 2 := h
        omega
      · have h : (0 : Int) = 4 := h
        omega
theorem GN_N {lk r t : Int} {T : Int → Prop} (ht : T t) : GN lk T (iNt r t) := fun i hi => by
  have hi : i ∈ [((wrd 6 r 0 0, 4, t) : It), (wrd 7 r 0 0, 5, t)] := hi
  rw [List.mem_cons, List.mem_singleton] at hi
  rcases hi with rfl | rfl
  · refine ⟨fun h => ?_, fun _ => ht⟩
    have h : (4 : Int) = 1 ∨ (4 : Int) = 2 := h
    omega
  · refine ⟨fun h => ?_, fun h => ?_⟩
    · have h : (5 : Int) = 1 ∨ (5 : Int) = 2 := h
      omega
    · have h : (5 : Int) = 4 := h
      omega
theorem GN_v {lk : Int} {T : Int → Prop} : ∀ cs : List Int, GN lk T (lvI cs)
  | [] => fun i hi => absurd hi List.not_mem_nil
  | c :: cs => GN_app (GN_app GN_L (GN_app GN_L GN_L)) (GN_v cs)
theorem gn_0 {f0 f1 : Bool} {lk x y y2 y3 : Int} {T : Int → Prop} : GN lk T (it_0 f0 f1 lk x y y2 y3) := GN_app (GN_app (GN_app (GN_app (GN_app (GN_app (GN_app (GN_app (GN_m _) (GN_L)) (GN_L)) (GN_L)) (GN_L)) (GN_L)) (GN_L)) (GN_L)) (GN_L)
theorem gn_1 {f0 f1 : Bool} {lk x y y2 y3 : Int} {T : Int → Prop} : GN lk T (it_1 f0 f1 lk x y y2 y3) := GN_app (GN_m _) (GN_m _)
theorem gn_2 {f0 f1 : Bool} {lk x y y2 y3 : Int} {T : Int → Prop} : GN lk T (it_2 f0 f1 lk x y y2 y3) := GN_app (GN_L) (GN_m _)
theorem gn_3 {f0 f1 : Bool} {lk x y y2 y3 : Int} {T : Int → Prop} : GN lk T (it_3 f0 f1 lk x y y2 y3) := GN_app (GN_m _) (GN_L)
theorem gn_4 {f0 f1 : Bool} {lk x y y2 y3 : Int} {T : Int → Prop} (hT : T (-10 - x)) : GN lk T (it_4 f0 f1 lk x y y2 y3) := GN_app (GN_app (GN_N hT) (GN_L)) (GN_m _)
theorem gn_5 {f0 f1 : Bool} {lk x y y2 y3 : Int} {T : Int → Prop} (hT : T (-10 - x)) : GN lk T (it_5 f0 f1 lk x y y2 y3) := GN_app (GN_app (GN_m _) (GN_N hT)) (GN_L)
theorem gn_6 {f0 f1 : Bool} {lk x y y2 y3 : Int} {T : Int → Prop} (hT : T (-10 - x)) : GN lk T (it_6 f0 f1 lk x y y2 y3) := GN_app (GN_app (GN_app (GN_app (GN_app (GN_app (GN_app (GN_app (GN_app (GN_app (GN_app (GN_m _) (GN_m _)) (GN_L)) (GN_L)) (GN_L)) (GN_L)) (GN_L)) (GN_G)) (GN_N hT)) (GN_L)) (GN_L)) (GN_m _)
theorem gn_7 {f0 f1 : Bool} {lk x y y2 y3 : Int} {T : Int → Prop} (hT : T (-10 - x)) : GN lk T (it_7 f0 f1 lk x y y2 y3) := GN_app (GN_app (GN_app (GN_app (GN_app (GN_app (GN_app (GN_app (GN_app (GN_app (GN_app (GN_m _) (GN_m _)) (GN_m _)) (GN_L)) (GN_L)) (GN_L)) (GN_L)) (GN_L)) (GN_G)) (GN_N hT)) (GN_L)) (GN_L)
theorem gn_8 {f0 f1 : Bool} {lk x y y2 y3 : Int} {T : Int → Prop} : GN lk T (it_8 f0 f1 lk x y y2 y3) := GN_app (GN_app (GN_app (GN_app (GN_app (GN_app (GN_app (GN_app (GN_app (GN_app (GN_m _) (GN_m _)) (GN_L)) (GN_L)) (GN_L)) (GN_L)) (GN_L)) (GN_L)) (GN_L)) (GN_G)) (GN_m _)
theorem gn_9 {f0 f1 : Bool} {lk x y y2 y3 : Int} {T : Int → Prop} : GN lk T (it_9 f0 f1 lk x y y2 y3) := GN_app (GN_app (GN_app (GN_app (GN_app (GN_app (GN_app (GN_app (GN_app (GN_app (GN_m _) (GN_m _)) (GN_L)) (GN_L)) (GN_L)) (GN_L)) (GN_L)) (GN_L)) (GN_L)) (GN_G)) (GN_m _)
theorem gn_10 {f0 f1 : Bool} {lk x y y2 y3 : Int} {T : Int → Prop} : GN lk T (it_10 f0 f1 lk x y y2 y3) := GN_app (GN_app (GN_app (GN_app (GN_app (GN_app (GN_m _) (GN_m _)) (GN_m _)) (GN_L)) (GN_L)) (GN_G)) (GN_m _)
theorem gn_11 {f0 f1 : Bool} {lk x y y2 y3 : Int} {T : Int → Prop} : GN lk T (it_11 f0 f1 lk x y y2 y3) := GN_app (GN_app (GN_app (GN_app (GN_app (GN_app (GN_app (GN_app (GN_app (GN_app (GN_app (GN_app (GN_m _) (GN_m _)) (GN_m _)) (GN_L)) (GN_L)) (GN_G)) (GN_L)) (GN_L)) (GN_L)) (GN_L)) (GN_L)) (GN_G)) (GN_m _)
theorem gn_12 {f0 f1 : Bool} {lk x y y2 y3 : Int} {T : Int → Prop} : GN lk T (it_12 f0 f1 lk x y y2 y3) := GN_app (GN_app (GN_app (GN_app (GN_app (GN_app (GN_m _) (GN_m _)) (GN_m _)) (GN_L)) (GN_L)) (GN_G)) (GN_m _)
theorem gn_13 {f0 f1 : Bool} {lk x y y2 y3 : Int} {T : Int → Prop} : GN lk T (it_13 f0 f1 lk x y y2 y3) := GN_app (GN_app (GN_app (GN_app (GN_app (GN_app (GN_app (GN_app (GN_app (GN_app (GN_m _) (GN_L)) (GN_L)) (GN_L)) (GN_L)) (GN_L)) (GN_L)) (GN_L)) (GN_L)) (GN_G)) (GN_m _)
theorem gn_15 {f0 f1 : Bool} {lk x y y2 y3 : Int} {T : Int → Prop} : GN lk T (it_15 f0 f1 lk x y y2 y3) := GN_G
theorem gn_16 {f0 f1 : Bool} {lk x y y2 y3 : Int} {T : Int → Prop} : GN lk T (it_16 f0 f1 lk x y y2 y3) := GN_app (GN_app (GN_app (GN_m _) (GN_L)) (GN_L)) (GN_G)
theorem gn_17 {f0 f1 : Bool} {lk x y y2 y3 : Int} {T : Int → Prop} (hT : T y) : GN lk T (it_17 f0 f1 lk x y y2 y3) := GN_app (GN_app (GN_app (GN_app (GN_N hT) (GN_L)) (GN_L)) (GN_G)) (GN_m _)
theorem gn_18 {f0 f1 : Bool} {lk x y y2 y3 : Int} {T : Int → Prop} : GN lk T (it_18 f0 f1 lk x y y2 y3) := GN_L
theorem gn_19 {f0 f1 : Bool} {lk x y y2 y3 : Int} {T : Int → Prop} : GN lk T (it_19 f0 f1 lk x y y2 y3) := GN_app (GN_app (GN_app (GN_app (GN_app (GN_app (GN_app (GN_m _) (GN_L)) (GN_L)) (GN_L)) (GN_L)) (GN_G)) (GN_L)) (GN_m _)
theorem gn_20 {f0 f1 : Bool} {lk x y y2 y3 : Int} {T : Int → Prop} : GN lk T (it_20 f0 f1 lk x y y2 y3) := GN_app (GN_app (GN_m _) (GN_m _)) (GN_L)
theorem gn_21 {f0 f1 : Bool} {lk x y y2 y3 : Int} {T : Int → Prop} : GN lk T (it_21 f0 f1 lk x y y2 y3) := GN_app (GN_L) (GN_G)
theorem gn_22 {f0 f1 : Bool} {lk x y y2 y3 : Int} {T : Int → Prop} : GN lk T (it_22 f0 f1 lk x y y2 y3) := GN_app (GN_app (GN_app (GN_app (GN_app (GN_m _) (GN_L)) (GN_L)) (GN_L)) (GN_L)) (GN_L)
theorem gn_23 {f0 f1 : Bool} {lk x y y2 y3 : Int} {T : Int → Prop} : GN lk T (it_23 f0 f1 lk x y y2 y3) := GN_L
theorem gn_24 {f0 f1 : Bool} {lk x y y2 y3 : Int} {T : Int → Prop} : GN lk T (it_24 f0 f1 lk x y y2 y3) := GN_app (GN_app (GN_app (GN_app (GN_app (GN_L) (GN_L)) (GN_L)) (GN_L)) (GN_L)) (GN_G)
theorem gn_25 {f0 f1 : Bool} {lk x y y2 y3 : Int} {T : Int → Prop} : GN lk T (it_25 f0 f1 lk x y y2 y3) := GN_G
theorem gn_14_0 {f0 f1 : Bool} {lk x y y2 y3 : Int} {T : Int → Prop} : GN lk T (it_14_0 f0 f1 lk x y y2 y3) := GN_app (GN_app (GN_app (GN_m _) (GN_m _)) (GN_L)) (GN_m _)
theorem gn_14_1 {f0 f1 : Bool} {lk x y y2 y3 : Int} {T : Int → Prop} : GN lk T (it_14_1 f0 f1 lk x y y2 y3) := GN_app (GN_app (GN_app (GN_m _) (GN_m _)) (GN_L)) (GN_m _)
theorem gn_14_2 {f0 f1 : Bool} {lk x y y2 y3 : Int} {T : Int → Prop} : GN lk T (it_14_2 f0 f1 lk x y y2 y3) := GN_app (GN_app (GN_app (GN_app (GN_app (GN_m _) (GN_m _)) (GN_L)) (GN_L)) (GN_L)) (GN_m _)
theorem gn_14_3 {f0 f1 : Bool} {lk x y y2 y3 : Int} {T : Int → Prop} : GN lk T (it_14_3 f0 f1 lk x y y2 y3) := GN_app (GN_app (GN_app (GN_app (GN_app (GN_m _) (GN_m _)) (GN_L)) (GN_L)) (GN_L)) (GN_m _)
theorem gn_14_4 {f0 f1 : Bool} {lk x y y2 y3 : Int} {T : Int → Prop} : GN lk T (it_14_4 f0 f1 lk x y y2 y3) := GN_app (GN_app (GN_app (GN_app (GN_app (GN_app (GN_m _) (GN_m _)) (GN_L)) (GN_L)) (GN_L)) (GN_L)) (GN_m _)
theorem gn_14_5 {f0 f1 : Bool} {lk x y y2 y3 : Int} {T : Int → Prop} : GN lk T (it_14_5 f0 f1 lk x y y2 y3) := GN_app (GN_app (GN_app (GN_app (GN_app (GN_app (GN_m _) (GN_m _)) (GN_L)) (GN_L)) (GN_L)) (GN_L)) (GN_m _)
theorem gn_B {f0 f1 : Bool} {lk x y y2 y3 : Int} {T : Int → Prop} : GN lk T (it_B f0 f1 lk x y y2 y3) := GN_app (GN_app (GN_app (GN_app (GN_app (GN_L) (GN_L)) (GN_L)) (GN_L)) (GN_L)) (GN_L)
theorem itO_gn {o : Int} {f0 f1 : Bool} {lk x y y2 y3 : Int} {cs : List Int} (ho : 0 ≤ o ∧ o ≤ 26) (h14 : o = 14 → 0 ≤ x ∧ x ≤ 5) : GN lk (fun t => (4 ≤ o ∧ o ≤ 7 ∧ t = -10 - x) ∨ (o = 17 ∧ t = y)) (itO o f0 f1 lk x y y2 y3 cs) := by
  have hcs : o = 0 ∨ o = 1 ∨ o = 2 ∨ o = 3 ∨ o = 4 ∨ o = 5 ∨ o = 6 ∨ o = 7 ∨ o = 8 ∨ o = 9 ∨ o = 10 ∨ o = 11 ∨ o = 12 ∨ o = 13 ∨ o = 14 ∨ o = 15 ∨ o = 16 ∨ o = 17 ∨ o = 18 ∨ o = 19 ∨ o = 20 ∨ o = 21 ∨ o = 22 ∨ o = 23 ∨ o = 24 ∨ o = 25 ∨ o = 26 := by omega
  rcases hcs with h | h | h | h | h | h | h | h | h | h | h | h | h | h | h | h | h | h | h | h | h | h | h | h | h | h | h
  · subst h
    rw [itO_0]; exact gn_0
  · subst h
    rw [itO_1]; exact gn_1
  · subst h
    rw [itO_2]; exact gn_2
  · subst h
    rw [itO_3]; exact gn_3
  · subst h
    rw [itO_4]; exact gn_4 (Or.inl ⟨by decide, by decide, rfl⟩)
  · subst h
    rw [itO_5]; exact gn_5 (Or.inl ⟨by decide, by decide, rfl⟩)
  · subst h
    rw [itO_6]; exact gn_6 (Or.inl ⟨by decide, by decide, rfl⟩)
  · subst h
    rw [itO_7]; exact gn_7 (Or.inl ⟨by decide, by decide, rfl⟩)
  · subst h
    rw [itO_8]; exact gn_8
  · subst h
    rw [itO_9]; exact gn_9
  · subst h
    rw [itO_10]; exact gn_10
  · subst h
    rw [itO_11]; exact gn_11
  · subst h
    rw [itO_12]; exact gn_12
  · subst h
    rw [itO_13]; exact gn_13
  · subst h
    obtain ⟨h5, h6⟩ := h14 rfl
    have hcz : x = 0 ∨ x = 1 ∨ x = 2 ∨ x = 3 ∨ x = 4 ∨ x = 5 := by omega
    rcases hcz with hz | hz | hz | hz | hz | hz
    · subst hz
      rw [itO_14_0]; exact gn_14_0
    · subst hz
      rw [itO_14_1]; exact gn_14_1
    · subst hz
      rw [itO_14_2]; exact gn_14_2
    · subst hz
      rw [itO_14_3]; exact gn_14_3
    · subst hz
      rw [itO_14_4]; exact gn_14_4
    · subst hz
      rw [itO_14_5]; exact gn_14_5
  · subst h
    rw [itO_15]; exact gn_15
  · subst h
    rw [itO_16]; exact gn_16
  · subst h
    rw [itO_17]; exact gn_17 (Or.inr ⟨rfl, rfl⟩)
  · subst h
    rw [itO_18]; exact gn_18
  · subst h
    rw [itO_19]; exact gn_19
  · subst h
    rw [itO_20]; exact gn_20
  · subst h
    rw [itO_21]; exact gn_21
  · subst h
    rw [itO_22]; exact gn_22
  · subst h
    rw [itO_23]; exact gn_23
  · subst h
    rw [itO_24]; exact gn_24
  · subst h
    rw [itO_25]; exact gn_25
  · subst h
    rw [itO_26]; exact GN_app (GN_v cs) gn_B
