/-! LEAVE ON THE PROCESSOR -/
section Lvq
variable {n : Nat} {W : Nat → Int} {ni : Int} {ip : Nat → Int} {tk ou x y y2 y3 lk r1 r2 r3 r4 r5 r6 r7 v5 v6 : Int} {Y sn : Nat → Int} {P N : Int → Int} {f0 f1 : Bool}
theorem lvI_l : ∀ cs : List Int, ((lvI cs).length : Int) = 3 * (cs.length : Int)
  | [] => rfl
  | c :: cs => by
    have h := lvI_l cs
    have e : (lvI (c :: cs)).length = 3 + (lvI cs).length := by
      show (mtI c ((c :: cs).length : Int) ++ lvI cs).length = _
      rw [List.length_append]
      rfl
    rw [e, List.length_cons]
    omega
theorem lv_q (hn : n ≤ 8192) (h4 : 0 ≤ r4 ∧ r4 < 65536) : ∀ (cs : List Int) (A r0 : Int), 0 ≤ A → A + 3 * (cs.length : Int) < n → cs.length ≤ 80 → (∀ c ∈ cs, 0 ≤ c ∧ c ≤ 255) → WdOk P N W (lvI cs) A → (∀ r0, ∃ s5, Rn n W ni ip (A + 3 * (cs.length : Int), R8 r0 r1 r2 r3 r4 r5 r6 r7, Y, tk, ou, sn) (v5, R8 r0 r1 r2 v6 5 s5 v6 r6, Y, tk, ou, sn)) → (∀ r0, ∃ s5, Rn n W ni ip (A + 3 * (cs.length : Int) + 1, R8 r0 r1 r2 r3 r4 r5 r6 r7, Y, tk, ou, sn) (v5, R8 r0 r1 r2 v6 r4 s5 v6 r6, Y, tk, ou, sn)) → ∃ s0 s5, Rn n W ni ip (A, R8 r0 r1 r2 r3 r4 r5 r6 r7, Y, tk, ou, sn) (v5, R8 s0 r1 r2 v6 (if r4 ∈ cs then r4 else 5) s5 v6 r6, Y, tk, ou, sn) := by
  intro cs
  induction cs with
  | nil =>
    intro A r0 hA hN hl hc hw hb hs
    obtain ⟨s5, z⟩ := hb r0
    rw [show A + 3 * (([] : List Int).length : Int) = A from by show A + 3 * 0 = A; omega] at z
    refine ⟨r0, s5, ?_⟩
    rw [if_neg (List.not_mem_nil)]
    exact z
  | cons c cs ih =>
    intro A r0 hA hN hl hc hw hb hs
    have el : (((c :: cs).length : Nat) : Int) = (cs.length : Int) + 1 := by rw [List.length_cons]; omega
    have hl2 : cs.length + 1 ≤ 80 := hl
    rw [el] at hN hb hs
    have hw2 : WdOk P N W (mtI c ((c :: cs).length : Int) ++ lvI cs) A := hw
    unfold mtI at hw2
    rw [el] at hw2
    simp only [List.append_assoc, WdOk_app, l_iL] at hw2
    obtain ⟨w0, w1, w2, w3⟩ := hw2
    have hcc := hc c List.mem_cons_self
    have hx := ixor_0 (x := c) (y := r4) (by omega) h4
    have s1 : Rn n W ni ip (A, R8 r0 r1 r2 r3 r4 r5 r6 r7, Y, tk, ou, sn) (A + 1 + 1, R8 (ixor c r4) r1 r2 r3 r4 r5 r6 r7, Y, tk, ou, sn) := by
      refine Rn_tr (T := (A + 1, R8 c r1 r2 r3 r4 r5 r6 r7, Y, tk, ou, sn)) (J_li (d := 0) (x := c) hn ⟨by omega, by omega, by omega⟩ (by decide) (by omega) (wl w0) (by omega) v8_0) ?_
      exact J_xor (d := 0) (a := 0) (b := 4) hn ⟨by omega, by omega, by omega⟩ (by decide) (wl w1) rfl v8_0
    by_cases q : r4 = c
    · obtain ⟨s5, z⟩ := hs (ixor c r4)
      refine ⟨ixor c r4, s5, ?_⟩
      rw [if_pos (by rw [q]; exact List.mem_cons_self)]
      refine Rn_tr s1 (Rn_tr (T := (A + 3 * ((cs.length : Int) + 1) + 1, R8 (ixor c r4) r1 r2 r3 r4 r5 r6 r7, Y, tk, ou, sn)) (J_jz1 (d := 0) (x := 3 * ((cs.length : Int) + 1) - 2) hn ⟨by omega, by omega, by omega⟩ (by decide) (by omega) (wl w2) (hx.2 q.symm) (by omega)) z)
    · have s2 : Rn n W ni ip (A, R8 r0 r1 r2 r3 r4 r5 r6 r7, Y, tk, ou, sn) (A + 1 + 1 + 1, R8 (ixor c r4) r1 r2 r3 r4 r5 r6 r7, Y, tk, ou, sn) := Rn_tr s1 (J_jz0 (d := 0) (x := 3 * ((cs.length : Int) + 1) - 2) hn ⟨by omega, by omega, by omega⟩ (by decide) (by omega) (wl w2) (fun w => q (hx.1 w).symm) (by omega))
      have ea : A + 1 + 1 + 1 + 3 * (cs.length : Int) = A + 3 * ((cs.length : Int) + 1) := by omega
      obtain ⟨s0, s5, z⟩ := ih (A + 1 + 1 + 1) (ixor c r4) (by omega) (by omega) (by omega) (fun d hd => hc d (List.mem_cons_of_mem _ hd)) w3 (by rw [ea]; exact hb) (by rw [ea]; exact hs)
      refine ⟨s0, s5, ?_⟩
      rw [show (if r4 ∈ c :: cs then r4 else 5) = if r4 ∈ cs then r4 else 5 from by
        by_cases u : r4 ∈ cs
        · rw [if_pos u, if_pos (List.mem_cons_of_mem _ u)]
        · rw [if_neg u, if_neg (fun w => by
            rcases List.mem_cons.1 w with v | v
            · exact q v
            · exact u v)]]
      exact Rn_tr s2 z
theorem Q_26 {A E : Int} {cs : List Int} {r0 : Int} (hn : n ≤ 8192) (hA : 0 ≤ A) (h : WdOk P N W (lvI cs ++ it_B f0 f1 lk x y y2 y3) A) (hE : A + ((lvI cs ++ it_B f0 f1 lk x y y2 y3).length : Int) = E) (hEn : E ≤ n) (hl : cs.length ≤ 80) (hcs : ∀ c ∈ cs, 0 ≤ c ∧ c ≤ 255) (h4 : 0 ≤ r4 ∧ r4 < 65536) (hy : 0 ≤ y ∧ y ≤ 30) (h6r : (n : Int) ≤ r6 ∧ r6 + y + 1 < 8192) (h5 : Y (r6 + y).toNat = v5) (h6 : Y (r6 + y + 1).toNat = v6) (hv6 : 0 ≤ v6 ∧ v6 < 65536) : ∃ s0 s5, Rn n W ni ip (A, R8 r0 r1 r2 r3 r4 r5 r6 r7, Y, tk, ou, sn) (v5, R8 s0 r1 r2 v6 (if r4 ∈ cs then r4 else 5) s5 v6 r6, Y, tk, ou, sn) := by
  rw [WdOk_app, lvI_l] at h
  rw [List.length_append, Int.natCast_add, lvI_l] at hE
  have lb : (((it_B f0 f1 lk x y y2 y3).length : Nat) : Int) = 6 := rfl
  have hcB : cX P (it_B f0 f1 lk x y y2 y3) (A + 3 * (cs.length : Int)) = false := rfl
  exact lv_q hn h4 cs A r0 hA (by omega) hl hcs h.1 (fun q0 => Q_B (A := A + 3 * (cs.length : Int)) (E := E) hn (by omega) h.2 hcB (by omega) hEn hy h6r h5 h6 hv6) (fun q0 => Q_Bs (A := A + 3 * (cs.length : Int)) (E := E) hn (by omega) h.2 hcB (by omega) hEn hy h6r h5 h6 hv6)
end Lvq
