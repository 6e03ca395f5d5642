/-! THE START: the world that the law finds at its entry (printed by a program out of the Statement's premises) -/
abbrev FL : List Cond := flatC (Jvm.Cond.and given_1 narrow_1)
theorem fl_at {A : Array Value} {s : State} (h : (Jvm.Cond.and given_1 narrow_1).before A s = true) (i : Nat) {w : Cond} (hw : FL[i]? = some w) : w.before A s = true := flat_of_before _ h _ (List.mem_of_getElem? hw)
theorem tb_at {A : Array Value} {s : State} (h : ∀ w ∈ lw_tbl, w.before A s = true) (i j : Nat) {w : Cond} (hw : (tbs i)[j]? = some w) : w.before A s = true := h _ (tbs_in (List.mem_of_getElem? hw))
def sOwn (i : Nat) : String × Nat := match i with
  | 0 => ("GatedPile$Text", 25)
  | 1 => ("GatedPile$Text", 33)
  | 2 => ("GatedPile$Text", 35)
  | 3 => ("GatedPile$Text", 37)
  | 4 => ("GatedPile$Text", 39)
  | 5 => ("GatedPile$Text", 41)
  | 6 => ("GatedPile$Text", 43)
  | 7 => ("GatedPile$Text", 45)
  | 8 => ("GatedPile$Text", 47)
  | 9 => ("GatedPile$Text", 49)
  | 10 => ("GatedPile$Text", 51)
  | 11 => ("GatedPile$Text", 53)
  | 12 => ("GatedPile$Text", 55)
  | 13 => ("GatedPile$Tops", 84)
  | 14 => ("GatedPile$Tops", 90)
  | 15 => ("GatedPile$Tops", 92)
  | 16 => ("GatedPile$Tops", 94)
  | 17 => ("GatedPile$Tops", 96)
  | 18 => ("GatedPile$Text", 120)
  | 19 => ("GatedPile$Tops", 106)
  | 20 => ("GatedPileModel", 456)
  | _ => ("java/lang/StringLatin1", 151)
def sPo (i : Nat) : Nat := match i with
  | 0 => 390
  | 1 => 397
  | 2 => 405
  | 3 => 413
  | 4 => 423
  | 5 => 429
  | 6 => 437
  | 7 => 446
  | 8 => 453
  | 9 => 461
  | 10 => 470
  | 11 => 480
  | 12 => 487
  | 13 => 493
  | 14 => 502
  | 15 => 511
  | 16 => 521
  | 17 => 530
  | 18 => 539
  | 19 => 559
  | 20 => 567
  | _ => 635
abbrev sTm (i : Nat) : Term := .string (sOwn i).1 (sOwn i).2
abbrev sVa (i : Nat) : Term := .field (sTm i) "java/lang/String" "value" "[B"
set_option maxRecDepth 100000 in
theorem fl_ex : ∀ i, i < 22 → FL[sPo i]? = some (Cond.exactly (sTm i) "java/lang/String") ∧ FL[sPo i + 1]? = some (Cond.eq (.field (sTm i) "java/lang/String" "coder" "B") (.int 0)) ∧ FL[sPo i + 2]? = some (Cond.arrayOf (sVa i) .byte) ∧ FL[sPo i + 3]? = some (Cond.eq (.length (sVa i)) (.int (Int32.ofNat (sBy i).length))) := by decide +kernel
set_option maxRecDepth 100000 in
theorem fl_el : ∀ i, i < 22 → ∀ j, j < (sBy i).length → FL[sPo i + 4 + j]? = some (Cond.eq (.elem (sVa i) (.int (Int32.ofNat j))) (.int (Int32.ofInt ((sBy i).getD j 0)))) := by decide +kernel
abbrev tt_1 : Term := .static "GatedPile$Layer" "MULTIPLY" "[I"
set_option maxRecDepth 100000 in
theorem fl_t1 : ∀ j, j < 120 → FL[61 + j]? = some (Cond.eq (.elem tt_1 (.int (Int32.ofNat j))) (.int (Int32.ofInt (tv_1.getD j 0)))) := by decide +kernel
abbrev tt_2 : Term := .static "GatedPile$Layer" "DIVIDE" "[I"
set_option maxRecDepth 100000 in
theorem fl_t2 : ∀ j, j < 176 → FL[184 + j]? = some (Cond.eq (.elem tt_2 (.int (Int32.ofNat j))) (.int (Int32.ofInt (tv_2.getD j 0)))) := by decide +kernel
abbrev tt_3 : Term := .static "GatedPile$Layer" "LOW_BITS" "[I"
set_option maxRecDepth 100000 in
theorem fl_t3 : ∀ j, j < 16 → FL[42 + j]? = some (Cond.eq (.elem tt_3 (.int (Int32.ofNat j))) (.int (Int32.ofInt (tv_3.getD j 0)))) := by decide +kernel
abbrev tt_4 : Term := .static "GatedPile$Maker" "PUSHES" "[I"
set_option maxRecDepth 100000 in
theorem fl_t4 : ∀ j, j < 27 → FL[12 + j]? = some (Cond.eq (.elem tt_4 (.int (Int32.ofNat j))) (.int (Int32.ofInt (tv_4.getD j 0)))) := by decide +kernel
abbrev tt_5 : Term := .static "GatedPileModel" "PUSHES" "[I"
set_option maxRecDepth 100000 in
theorem fl_t5 : ∀ j, j < 27 → FL[363 + j]? = some (Cond.eq (.elem tt_5 (.int (Int32.ofNat j))) (.int (Int32.ofInt (tv_5.getD j 0)))) := by decide +kernel
theorem str_one {A : Array Value} {s : State} (h : (Jvm.Cond.and given_1 narrow_1).before A s = true) {B : Nat → Prop} (hA : ∀ a : Nat, a < s.heap.size → ¬ B a) (i : Nat) (hi : i < 22) : ∃ q : Nat × Nat, (sTm i).eval A s none [] s = some (.ref q.1) ∧ va_O "java/lang/String" q.1 B s s.heap ∧ va_OF "java/lang/String" "coder" "B" (.int 0) q.1 B s s.heap ∧ va_OF "java/lang/String" "value" "[B" (.ref q.2) q.1 B s s.heap ∧ va_T .byte q.2 (sBy i).length (fun j => .int (Int32.ofInt ((sBy i).getD j 0))) B s s.heap := by
  obtain ⟨e1, e2, e3, e4⟩ := fl_ex i hi
  have hlen : ∀ i, i < 22 → (sBy i).length < 100 := by decide +kernel
  obtain ⟨a, c, cA, kA, q1, q2, q3, q4, q5, q6, -⟩ := Cond.exactly_spec (args := A) (first := s) (o := none) (s := s) (idx := []) (t := sTm i) (cls := "java/lang/String") (fl_at h _ e1)
  obtain ⟨t, ht, hT⟩ := va_Tof (f := fun j => .int (Int32.ofInt ((sBy i).getD j 0))) (A := B) (N := (sBy i).length) (by have := hlen i hi; omega) (fl_at h _ e3) (va_eqt (fl_at h _ e4)) (fun j hj => va_eqt (fl_at h _ (fl_el i hi j hj))) hA
  exact ⟨(a, t), q1, ⟨cA, q3, q5, by rw [q6]; exact q2, hA a (Array.getElem?_eq_some_iff.mp q3).1⟩, vk_OFof q1 (va_eqt (fl_at h _ e2)) hA, vk_OFof q1 ht hA, hT⟩
set_option maxRecDepth 100000 in
theorem tab_1 {A : Array Value} {s : State} (h : (Jvm.Cond.and given_1 narrow_1).before A s = true) {B : Nat → Prop} (hA : ∀ a : Nat, a < s.heap.size → ¬ B a) : ∃ t : Nat, tt_1.eval A s none [] s = some (.ref t) ∧ va_T .int t tv_1.length (fun j => .int (Int32.ofInt (tv_1.getD j 0))) B s s.heap :=
  va_Tof (N := tv_1.length) (by decide) (fl_at h 59 rfl) (va_eqt (fl_at h 60 rfl)) (fun j hj => va_eqt (fl_at h _ (fl_t1 j hj))) hA
set_option maxRecDepth 100000 in
theorem tab_2 {A : Array Value} {s : State} (h : (Jvm.Cond.and given_1 narrow_1).before A s = true) {B : Nat → Prop} (hA : ∀ a : Nat, a < s.heap.size → ¬ B a) : ∃ t : Nat, tt_2.eval A s none [] s = some (.ref t) ∧ va_T .int t tv_2.length (fun j => .int (Int32.ofInt (tv_2.getD j 0))) B s s.heap :=
  va_Tof (N := tv_2.length) (by decide) (fl_at h 182 rfl) (va_eqt (fl_at h 183 rfl)) (fun j hj => va_eqt (fl_at h _ (fl_t2 j hj))) hA
set_option maxRecDepth 100000 in
theorem tab_3 {A : Array Value} {s : State} (h : (Jvm.Cond.and given_1 narrow_1).before A s = true) {B : Nat → Prop} (hA : ∀ a : Nat, a < s.heap.size → ¬ B a) : ∃ t : Nat, tt_3.eval A s none [] s = some (.ref t) ∧ va_T .int t tv_3.length (fun j => .int (Int32.ofInt (tv_3.getD j 0))) B s s.heap :=
  va_Tof (N := tv_3.length) (by decide) (fl_at h 40 rfl) (va_eqt (fl_at h 41 rfl)) (fun j hj => va_eqt (fl_at h _ (fl_t3 j hj))) hA
set_option maxRecDepth 100000 in
theorem tab_4 {A : Array Value} {s : State} (h : (Jvm.Cond.and given_1 narrow_1).before A s = true) {B : Nat → Prop} (hA : ∀ a : Nat, a < s.heap.size → ¬ B a) : ∃ t : Nat, tt_4.eval A s none [] s = some (.ref t) ∧ va_T .int t tv_4.length (fun j => .int (Int32.ofInt (tv_4.getD j 0))) B s s.heap :=
  va_Tof (N := tv_4.length) (by decide) (fl_at h 10 rfl) (va_eqt (fl_at h 11 rfl)) (fun j hj => va_eqt (fl_at h _ (fl_t4 j hj))) hA
set_option maxRecDepth 100000 in
theorem tab_5 {A : Array Value} {s : State} (h : (Jvm.Cond.and given_1 narrow_1).before A s = true) {B : Nat → Prop} (hA : ∀ a : Nat, a < s.heap.size → ¬ B a) : ∃ t : Nat, tt_5.eval A s none [] s = some (.ref t) ∧ va_T .int t tv_5.length (fun j => .int (Int32.ofInt (tv_5.getD j 0))) B s s.heap :=
  va_Tof (N := tv_5.length) (by decide) (fl_at h 361 rfl) (va_eqt (fl_at h 362 rfl)) (fun j hj => va_eqt (fl_at h _ (fl_t5 j hj))) hA
abbrev st0 (L : Nat) (xs : Nat → Int32) : xStt := (stK0, stL0 L, stM0 xs)
theorem st0_K (L : Nat) (xs : Nat → Int32) : StK (st0 L xs) := fun i hi => by
  show stK0 i < 4 ∨ stK0 i = 10
  unfold stK0
  split
  · left; omega
  · split
    · right; rfl
    · left; omega
theorem h00_R (G : xG) (L : Nat) (xs : Nat → Int32) (H : Heap) (hG : G.2.2.2 = H.size) : HR G (st0 L xs) H (h00 L xs) H := ⟨Nat.le_refl _, by show H.size = G.2.2.2 + (pS - pS); omega, fun _ _ => rfl, fun i h1 h2 => absurd h2 (Nat.not_lt.mpr h1), fun i hi => ⟨rfl, rfl, fun _ => rfl⟩⟩
theorem kn_all {A : Array Value} {s : State} (hts : ∀ w ∈ lw_tbl, w.before A s = true) : ∀ (c : Nat), ∃ z : ClassId × (Nat → Nat), ∀ q : vw_C, pCl[c]? = some q → u_Kn s q.1 q.2.1 q.2.2 z.1 z.2 := by
  have hg : ∀ w ∈ gw, w.before A s = true := fun w hw => hts w (gw_in w hw)
  intro c
  by_cases hc : c < 12
  · rcases (show c = 0 ∨ c = 1 ∨ c = 2 ∨ c = 3 ∨ c = 4 ∨ c = 5 ∨ c = 6 ∨ c = 7 ∨ c = 8 ∨ c = 9 ∨ c = 10 ∨ c = 11 by omega) with z | z | z | z | z | z | z | z | z | z | z | z
    · subst z; obtain ⟨a, b, h⟩ := u_known (n := 4) hg inC0 (tb_at hts 6 202 rfl); exact ⟨(a, b), fun q hq => by cases hq; exact h⟩
    · subst z; obtain ⟨a, b, h⟩ := u_known (n := 14) hg inC1 (tb_at hts 2 161 rfl); exact ⟨(a, b), fun q hq => by cases hq; exact h⟩
    · subst z; obtain ⟨a, b, h⟩ := u_known (n := 2) hg inC2 (tb_at hts 1 199 rfl); exact ⟨(a, b), fun q hq => by cases hq; exact h⟩
    · subst z; obtain ⟨a, b, h⟩ := u_known (n := 9) hg inC3 (tb_at hts 2 31 rfl); exact ⟨(a, b), fun q hq => by cases hq; exact h⟩
    · subst z; obtain ⟨a, b, h⟩ := u_known (n := 14) hg inC4 (tb_at hts 2 102 rfl); exact ⟨(a, b), fun q hq => by cases hq; exact h⟩
    · subst z; obtain ⟨a, b, h⟩ := u_known (n := 16) hg inC5 (tb_at hts 1 213 rfl); exact ⟨(a, b), fun q hq => by cases hq; exact h⟩
    · subst z; obtain ⟨a, b, h⟩ := u_known (n := 8) hg inC6 (tb_at hts 2 65 rfl); exact ⟨(a, b), fun q hq => by cases hq; exact h⟩
    · subst z; obtain ⟨a, b, h⟩ := u_known (n := 7) hg inC7 (tb_at hts 1 29 rfl); exact ⟨(a, b), fun q hq => by cases hq; exact h⟩
    · subst z; obtain ⟨a, b, h⟩ := u_known (n := 17) hg inC8 (tb_at hts 1 133 rfl); exact ⟨(a, b), fun q hq => by cases hq; exact h⟩
    · subst z; obtain ⟨a, b, h⟩ := u_known (n := 14) hg inC9 (tb_at hts 2 238 rfl); exact ⟨(a, b), fun q hq => by cases hq; exact h⟩
    · subst z; obtain ⟨a, b, h⟩ := u_known (n := 12) hg inC10 (tb_at hts 1 21 rfl); exact ⟨(a, b), fun q hq => by cases hq; exact h⟩
    · subst z; obtain ⟨a, b, h⟩ := u_known (n := 118) hg inC11 (tb_at hts 6 182 rfl); exact ⟨(a, b), fun q hq => by cases hq; exact h⟩
  · exact ⟨(default, default), fun q hq => absurd (List.getElem?_eq_some_iff.mp hq).1 (by show ¬ c < 12; omega)⟩
theorem arr_one {A : Array Value} {s : State} {ty : FieldType} (h : (Jvm.Cond.arrayClass ty).before A s = true) : ∃ cA : ClassId, ArrOfT s cA ty ∧ s.vm.findClass ("[" ++ ty.toString) = some cA := by
  obtain ⟨c, k, comp, h1, h2, h3⟩ := Cond.arrayClass_spec h
  exact ⟨c, fun n z => ⟨fun k h => (by cases h), k, h2, comp, h3⟩, h1⟩
theorem tv_r : ∀ i, i < 6 → ∀ j, j < (tvL i).length → (Int32.ofInt ((tvL i).getD j 0)).toInt = (tvL i).getD j 0 := by decide +kernel
theorem sb_r : ∀ i, i < 22 → ∀ j, j < (sBy i).length → (Int32.ofInt ((sBy i).getD j 0)).toInt = (sBy i).getD j 0 := by decide +kernel
theorem tv_l : ∀ i, i < 6 → (tvL i).length ≤ 100000 := by decide +kernel
theorem sb_l : ∀ i, i < 22 → (sBy i).length ≤ 100000 := by decide +kernel
def strL : List (Nat × Nat × Int) := [(7, 25, 6), (7, 33, 8), (7, 35, 10), (7, 37, 12), (7, 39, 14), (7, 41, 16), (7, 43, 18), (7, 45, 20), (7, 47, 22), (7, 49, 24), (7, 51, 26), (7, 53, 28), (7, 55, 30), (7, 120, 42), (8, 84, 32), (8, 90, 34), (8, 92, 36), (8, 94, 38), (8, 96, 40), (8, 106, 44), (11, 456, 46), (11, 475, 32), (11, 477, 34), (11, 478, 36), (11, 480, 38), (11, 482, 40), (11, 490, 44), (13, 151, 48), (14, 295, 48)]
theorem strL_ok : ∀ o, o < 18 → ∀ e ∈ plL.getD o [], e.2.1 = 2 → (o, e.1, e.2.2) ∈ strL := by decide +kernel
theorem strL_in {own k : Nat} {i : Int} {nm : String} (hn : cnm[own]? = some nm) (h : ppl own k = some (2, i)) : (own, k, i) ∈ strL := by
  have h1 : own < 18 := (List.getElem?_eq_some_iff.mp hn).1
  exact strL_ok own h1 (k, 2, i) (mem_lookup h) rfl
set_option maxRecDepth 100000 in
theorem start_W {b L : Nat} {xs : Nat → Int32} {s : State} (hL : L ≤ 384) (hts : ∀ w ∈ lw_tbl, w.before #[Value.ref b] s = true) (hX : va_X b L xs s s.heap) (hb : b < s.heap.size) (hgv : (Jvm.Cond.and given_1 narrow_1).before #[Value.ref b] s = true) : ∃ G : xG, G.2.2.2 = s.heap.size ∧ G.2.2.1 0 = b ∧ WS G (st0 L xs) s := by
  have hA : ∀ a : Nat, a < s.heap.size → ¬ s.heap.size ≤ a := fun a h => Nat.not_le.mpr h
  obtain ⟨D, hD⟩ := Classical.axiomOfChoice (kn_all hts)
  obtain ⟨ca0, ha0, hb0⟩ := arr_one (ty := .int) (tb_at hts 1 130 rfl)
  obtain ⟨ca1, ha1, hb1⟩ := arr_one (ty := .long) (tb_at hts 1 131 rfl)
  obtain ⟨ca2, ha2, hb2⟩ := arr_one (ty := .byte) (tb_at hts 1 129 rfl)
  obtain ⟨ca3, ha3, hb3⟩ := arr_one (ty := .boolean) (tb_at hts 6 236 rfl)
  obtain ⟨t1, et1, ht1⟩ := tab_1 (B := fun q => s.heap.size ≤ q) hgv hA
  obtain ⟨t2, et2, ht2⟩ := tab_2 (B := fun q => s.heap.size ≤ q) hgv hA
  obtain ⟨t3, et3, ht3⟩ := tab_3 (B := fun q => s.heap.size ≤ q) hgv hA
  obtain ⟨t4, et4, ht4⟩ := tab_4 (B := fun q => s.heap.size ≤ q) hgv hA
  obtain ⟨t5, et5, ht5⟩ := tab_5 (B := fun q => s.heap.size ≤ q) hgv hA
  have hs0 : ∀ i : Nat, ∃ q : Nat × Nat, i < 22 → (sTm i).eval #[Value.ref b] s none [] s = some (.ref q.1) ∧ va_O "java/lang/String" q.1 (fun q => s.heap.size ≤ q) s s.heap ∧ va_OF "java/lang/String" "coder" "B" (.int 0) q.1 (fun q => s.heap.size ≤ q) s s.heap ∧ va_OF "java/lang/String" "value" "[B" (.ref q.2) q.1 (fun q => s.heap.size ≤ q) s s.heap ∧ va_T .byte q.2 (sBy i).length (fun j => .int (Int32.ofInt ((sBy i).getD j 0))) (fun q => s.heap.size ≤ q) s s.heap := by
    intro i
    by_cases hi : i < 22
    · obtain ⟨q, h⟩ := str_one hgv hA i hi
      exact ⟨q, fun _ => h⟩
    · exact ⟨(0, 0), fun h => absurd h hi⟩
  obtain ⟨sd, hsd⟩ := Classical.axiomOfChoice hs0
  let ad : Nat → Nat := fun i => if i = 0 then b else if i < 6 then (match i with
    | 1 => t1
    | 2 => t2
    | 3 => t3
    | 4 => t4
    | _ => t5) else if i % 2 = 0 then (sd ((i - 6) / 2)).1 else (sd ((i - 6) / 2)).2
  have ad0 : ad 0 = b := rfl
  have adK : ∀ i, 6 ≤ i → i % 2 = 0 → ad i = (sd ((i - 6) / 2)).1 := fun i h1 h2 => by
    show (if i = 0 then b else if i < 6 then _ else if i % 2 = 0 then _ else _) = _
    rw [if_neg (by omega), if_neg (by omega), if_pos h2]
  have adV : ∀ i, 6 ≤ i → ¬ i % 2 = 0 → ad i = (sd ((i - 6) / 2)).2 := fun i h1 h2 => by
    show (if i = 0 then b else if i < 6 then _ else if i % 2 = 0 then _ else _) = _
    rw [if_neg (by omega), if_neg (by omega), if_neg h2]
  let ca : Nat → ClassId := fun k => match k with
    | 0 => ca0
    | 1 => ca1
    | 2 => ca2
    | _ => ca3
  let G : xG := ((fun c => (D c).1, fun c => (D c).2), ca, ad, s.heap.size)
  have roS : ∀ i, i < pS → ro G i = ad i := fun i hi => if_pos hi
  refine ⟨G, rfl, rfl, ⟨fun c q hq => hD c q hq, fun k q hk => ?_⟩, fun i hi hs => ?_, fun i hi hs => ?_, ?_, fun own nm hn k i hp => ?_, ?_⟩
  · have hk4 : k < 4 := (List.getElem?_eq_some_iff.mp hk).1
    rcases (show k = 0 ∨ k = 1 ∨ k = 2 ∨ k = 3 by omega) with z | z | z | z <;> subst z <;> cases hk
    · exact ⟨ha0, hb0⟩
    · exact ⟨ha1, hb1⟩
    · exact ⟨ha2, hb2⟩
    · exact ⟨ha3, hb3⟩
  · have hsi : stK0 i = 10 := hs
    have h6 : 6 ≤ i ∧ i % 2 = 0 := by
      unfold stK0 at hsi
      split at hsi
      · omega
      · split at hsi
        · constructor <;> omega
        · omega
    have hj : (i - 6) / 2 < 22 := by
      have : i < 50 := hi
      omega
    obtain ⟨q1, q2, q3, q4, q5⟩ := hsd _ hj
    show va_O "java/lang/String" (ad i) _ s s.heap ∧ _
    rw [adK i h6.1 h6.2]
    refine ⟨q2, fun k hk => ?_⟩
    show ∃ v, va_OF "java/lang/String" (TC0 k).2.1 (TC0 k).2.2.1 v (ad i) _ s s.heap ∧ _
    rw [adK i h6.1 h6.2]
    rcases (show k = 0 ∨ k = 1 by omega) with z | z <;> subst z
    · refine ⟨_, q4, Or.inr (Or.inr ⟨i + 1, ?_, ?_⟩)⟩
      · show stM0 xs i 0 = _
        unfold stM0
        rw [if_neg (by omega), if_neg (by omega), if_pos h6.2, if_pos rfl]
      · rw [roS _ (by show i + 1 < 50; have : i < 50 := hi; omega), adV (i + 1) (by omega) (by omega), show (i + 1 - 6) / 2 = (i - 6) / 2 by omega]
    · refine ⟨_, q3, 0, rfl, ?_⟩
      show stM0 xs i 1 = _
      unfold stM0
      rw [if_neg (by omega), if_neg (by omega), if_pos h6.2, if_neg (by omega)]
      rfl
  · have hsi : stK0 i < 4 := hs
    by_cases h0 : i = 0
    · subst h0
      refine ⟨Or.inl rfl, by show L ≤ 100000; omega, fun j => .int (xs j), ?_, fun j hj => ⟨xs j, rfl, rfl⟩⟩
      obtain ⟨scr, e1, e2, e3, e4, e5⟩ := hX
      refine ⟨scr, e1, e2, e3, by rw [e4]; exact Nat.le_refl _, by rw [e4]; rfl, e5, hA _ hb⟩
    · by_cases h6 : i < 6
      · have hk0 : stK0 i = 0 := by unfold stK0; rw [if_pos h6]
        have hl0 : stL0 L i = (tvL i).length := by unfold stL0; rw [if_neg h0, if_pos h6]
        have hm0 : ∀ j, stM0 xs i j = (tvL i).getD j 0 := fun j => by unfold stM0; rw [if_neg h0, if_pos h6]
        refine ⟨Or.inl hk0, by show stL0 L i ≤ 100000; rw [hl0]; exact tv_l i h6, fun j => .int (Int32.ofInt ((tvL i).getD j 0)), ?_, fun j hj => ⟨_, rfl, ?_⟩⟩
        · show va_T (aft (stK0 i)) (ad i) (stL0 L i) _ _ s s.heap
          rw [hk0, hl0]
          rcases (show i = 1 ∨ i = 2 ∨ i = 3 ∨ i = 4 ∨ i = 5 by omega) with z | z | z | z | z <;> subst z
          · exact ht1
          · exact ht2
          · exact ht3
          · exact ht4
          · exact ht5
        · show stM0 xs i j = _
          have hj' : j < stL0 L i := hj
          rw [hl0] at hj'
          rw [hm0, tv_r i h6 j hj']
      · have hod : ¬ i % 2 = 0 := by
          intro z
          unfold stK0 at hsi
          rw [if_neg h6, if_pos z] at hsi
          omega
        have hj : (i - 6) / 2 < 22 := by
          have : i < 50 := hi
          omega
        obtain ⟨q1, q2, q3, q4, q5⟩ := hsd _ hj
        have hk0 : stK0 i = 2 := by unfold stK0; rw [if_neg h6, if_neg hod]
        have hl0 : stL0 L i = (sBy ((i - 6) / 2)).length := by unfold stL0; rw [if_neg h0, if_neg h6, if_neg hod]
        have hm0 : ∀ j, stM0 xs i j = (sBy ((i - 6) / 2)).getD j 0 := fun j => by unfold stM0; rw [if_neg h0, if_neg h6, if_neg hod]
        refine ⟨Or.inr hk0, by show stL0 L i ≤ 100000; rw [hl0]; exact sb_l _ hj, fun j => .int (Int32.ofInt ((sBy ((i - 6) / 2)).getD j 0)), ?_, fun j hj' => ⟨_, rfl, ?_⟩⟩
        · show va_T (aft (stK0 i)) (ad i) (stL0 L i) _ _ s s.heap
          rw [hk0, hl0, adV i (by omega) hod]
          exact q5
        · show stM0 xs i j = _
          have hj2 : j < stL0 L i := hj'
          rw [hl0] at hj2
          rw [hm0, sb_r _ hj j hj2]
  · exact List.forall_mem_cons.mpr ⟨⟨.ref t1, va_Zof (tb_at hts 5 152 rfl) (tb_at hts 1 10 rfl) et1 hA, Or.inr (Or.inr ⟨1, rfl, rfl⟩)⟩, List.forall_mem_cons.mpr ⟨⟨.ref t2, va_Zof (tb_at hts 5 158 rfl) (tb_at hts 1 10 rfl) et2 hA, Or.inr (Or.inr ⟨2, rfl, rfl⟩)⟩, List.forall_mem_cons.mpr ⟨⟨.ref t3, va_Zof (tb_at hts 5 133 rfl) (tb_at hts 1 10 rfl) et3 hA, Or.inr (Or.inr ⟨3, rfl, rfl⟩)⟩, List.forall_mem_cons.mpr ⟨⟨.ref t4, va_Zof (tb_at hts 5 21 rfl) (tb_at hts 1 9 rfl) et4 hA, Or.inr (Or.inr ⟨4, rfl, rfl⟩)⟩, List.forall_mem_cons.mpr ⟨⟨.ref t5, va_Zof (tb_at hts 9 115 rfl) (tb_at hts 1 17 rfl) et5 hA, Or.inr (Or.inr ⟨5, rfl, rfl⟩)⟩, List.forall_mem_cons.mpr ⟨⟨.int 1, va_Zof (tb_at hts 1 47 rfl) (tb_at hts 1 4 rfl) (va_eqi (fl_at hgv 4 rfl)) hA, 1, rfl, rfl⟩, List.forall_mem_cons.mpr ⟨(by
      rcases va_Zqof (A := fun q => s.heap.size ≤ q) (tb_at hts 1 63 rfl) (tb_at hts 1 6 rfl) (fl_at hgv 5 rfl) hA with z | ⟨t, z⟩
      · exact ⟨_, z, Or.inr (Or.inl ⟨rfl, Or.inl rfl⟩)⟩
      · exact ⟨_, z, Or.inr (Or.inl ⟨rfl, Or.inr ⟨t, rfl⟩⟩)⟩), fun _ h => absurd h List.not_mem_nil⟩⟩⟩⟩⟩⟩⟩
  · have hm := strL_in hn hp
    have hall : ∀ e ∈ strL, ∀ nm, cnm[e.1]? = some nm → ∃ (a : Nat) (tx : String), e.2.2 = (a : Int) ∧ a < pS ∧ vk_R nm e.2.1 tx (G.2.2.1 a) s := by
      refine List.forall_mem_cons.mpr ⟨fun nm hn => by cases hn; exact ⟨6, "var", rfl, by decide, vk_R.of (tb_at hts 1 34 rfl) ((hsd 0 (by decide)).1)⟩, ?_⟩
      refine List.forall_mem_cons.mpr ⟨fun nm hn => by cases hn; exact ⟨8, "cond", rfl, by decide, vk_R.of (tb_at hts 1 90 rfl) ((hsd 1 (by decide)).1)⟩, ?_⟩
      refine List.forall_mem_cons.mpr ⟨fun nm hn => by cases hn; exact ⟨10, "proc", rfl, by decide, vk_R.of (tb_at hts 1 91 rfl) ((hsd 2 (by decide)).1)⟩, ?_⟩
      refine List.forall_mem_cons.mpr ⟨fun nm hn => by cases hn; exact ⟨12, "raises", rfl, by decide, vk_R.of (tb_at hts 1 92 rfl) ((hsd 3 (by decide)).1)⟩, ?_⟩
      refine List.forall_mem_cons.mpr ⟨fun nm hn => by cases hn; exact ⟨14, "if", rfl, by decide, vk_R.of (tb_at hts 1 93 rfl) ((hsd 4 (by decide)).1)⟩, ?_⟩
      refine List.forall_mem_cons.mpr ⟨fun nm hn => by cases hn; exact ⟨16, "else", rfl, by decide, vk_R.of (tb_at hts 1 94 rfl) ((hsd 5 (by decide)).1)⟩, ?_⟩
      refine List.forall_mem_cons.mpr ⟨fun nm hn => by cases hn; exact ⟨18, "while", rfl, by decide, vk_R.of (tb_at hts 1 95 rfl) ((hsd 6 (by decide)).1)⟩, ?_⟩
      refine List.forall_mem_cons.mpr ⟨fun nm hn => by cases hn; exact ⟨20, "try", rfl, by decide, vk_R.of (tb_at hts 1 96 rfl) ((hsd 7 (by decide)).1)⟩, ?_⟩
      refine List.forall_mem_cons.mpr ⟨fun nm hn => by cases hn; exact ⟨22, "when", rfl, by decide, vk_R.of (tb_at hts 1 97 rfl) ((hsd 8 (by decide)).1)⟩, ?_⟩
      refine List.forall_mem_cons.mpr ⟨fun nm hn => by cases hn; exact ⟨24, "raise", rfl, by decide, vk_R.of (tb_at hts 1 98 rfl) ((hsd 9 (by decide)).1)⟩, ?_⟩
      refine List.forall_mem_cons.mpr ⟨fun nm hn => by cases hn; exact ⟨26, "return", rfl, by decide, vk_R.of (tb_at hts 1 99 rfl) ((hsd 10 (by decide)).1)⟩, ?_⟩
      refine List.forall_mem_cons.mpr ⟨fun nm hn => by cases hn; exact ⟨28, "out", rfl, by decide, vk_R.of (tb_at hts 1 100 rfl) ((hsd 11 (by decide)).1)⟩, ?_⟩
      refine List.forall_mem_cons.mpr ⟨fun nm hn => by cases hn; exact ⟨30, "in", rfl, by decide, vk_R.of (tb_at hts 1 101 rfl) ((hsd 12 (by decide)).1)⟩, ?_⟩
      refine List.forall_mem_cons.mpr ⟨fun nm hn => by cases hn; exact ⟨42, "(){}[];,=+-*/%<>", rfl, by decide, vk_R.of (tb_at hts 4 29 rfl) ((hsd 18 (by decide)).1)⟩, ?_⟩
      refine List.forall_mem_cons.mpr ⟨fun nm hn => by cases hn; exact ⟨32, "range", rfl, by decide, vk_R.of (tb_at hts 3 213 rfl) ((hsd 13 (by decide)).1)⟩, ?_⟩
      refine List.forall_mem_cons.mpr ⟨fun nm hn => by cases hn; exact ⟨34, "index", rfl, by decide, vk_R.of (tb_at hts 3 223 rfl) ((hsd 14 (by decide)).1)⟩, ?_⟩
      refine List.forall_mem_cons.mpr ⟨fun nm hn => by cases hn; exact ⟨36, "divide", rfl, by decide, vk_R.of (tb_at hts 3 224 rfl) ((hsd 15 (by decide)).1)⟩, ?_⟩
      refine List.forall_mem_cons.mpr ⟨fun nm hn => by cases hn; exact ⟨38, "empty", rfl, by decide, vk_R.of (tb_at hts 3 225 rfl) ((hsd 16 (by decide)).1)⟩, ?_⟩
      refine List.forall_mem_cons.mpr ⟨fun nm hn => by cases hn; exact ⟨40, "error", rfl, by decide, vk_R.of (tb_at hts 3 226 rfl) ((hsd 17 (by decide)).1)⟩, ?_⟩
      refine List.forall_mem_cons.mpr ⟨fun nm hn => by cases hn; exact ⟨44, "main", rfl, by decide, vk_R.of (tb_at hts 5 110 rfl) ((hsd 19 (by decide)).1)⟩, ?_⟩
      refine List.forall_mem_cons.mpr ⟨fun nm hn => by cases hn; exact ⟨46, "var cond proc raises if else while try when raise return out in ", rfl, by decide, vk_R.of (tb_at hts 6 189 rfl) ((hsd 20 (by decide)).1)⟩, ?_⟩
      refine List.forall_mem_cons.mpr ⟨fun nm hn => by cases hn; exact ⟨32, "range", rfl, by decide, vk_R.of (tb_at hts 8 225 rfl) (va_eqR (fl_at hgv 653 rfl) (hsd 13 (by decide)).1)⟩, ?_⟩
      refine List.forall_mem_cons.mpr ⟨fun nm hn => by cases hn; exact ⟨34, "index", rfl, by decide, vk_R.of (tb_at hts 8 230 rfl) (va_eqR (fl_at hgv 663 rfl) (hsd 14 (by decide)).1)⟩, ?_⟩
      refine List.forall_mem_cons.mpr ⟨fun nm hn => by cases hn; exact ⟨36, "divide", rfl, by decide, vk_R.of (tb_at hts 8 231 rfl) (va_eqR (fl_at hgv 674 rfl) (hsd 15 (by decide)).1)⟩, ?_⟩
      refine List.forall_mem_cons.mpr ⟨fun nm hn => by cases hn; exact ⟨38, "empty", rfl, by decide, vk_R.of (tb_at hts 8 232 rfl) (va_eqR (fl_at hgv 684 rfl) (hsd 16 (by decide)).1)⟩, ?_⟩
      refine List.forall_mem_cons.mpr ⟨fun nm hn => by cases hn; exact ⟨40, "error", rfl, by decide, vk_R.of (tb_at hts 8 233 rfl) (va_eqR (fl_at hgv 694 rfl) (hsd 17 (by decide)).1)⟩, ?_⟩
      refine List.forall_mem_cons.mpr ⟨fun nm hn => by cases hn; exact ⟨44, "main", rfl, by decide, vk_R.of (tb_at hts 9 191 rfl) (va_eqR (fl_at hgv 703 rfl) (hsd 19 (by decide)).1)⟩, ?_⟩
      refine List.forall_mem_cons.mpr ⟨fun nm hn => by cases hn; exact ⟨48, "", rfl, by decide, vk_R.of (tb_at hts 6 200 rfl) ((hsd 21 (by decide)).1)⟩, ?_⟩
      refine List.forall_mem_cons.mpr ⟨fun nm hn => by cases hn; exact ⟨48, "", rfl, by decide, vk_R.of (tb_at hts 7 0 rfl) (va_eqR (fl_at hgv 643 rfl) (hsd 21 (by decide)).1)⟩, ?_⟩
      exact fun _ h => absurd h List.not_mem_nil
    exact hall _ hm nm hn
  · exact List.forall_mem_cons.mpr ⟨va_Nw.of rfl (tb_at hts 1 134 rfl), List.forall_mem_cons.mpr ⟨va_Nw.of rfl (tb_at hts 2 66 rfl), List.forall_mem_cons.mpr ⟨va_Nw.of rfl (tb_at hts 2 103 rfl), List.forall_mem_cons.mpr ⟨va_Nw.of rfl (tb_at hts 2 162 rfl), fun _ h => absurd h List.not_mem_nil⟩⟩⟩⟩
