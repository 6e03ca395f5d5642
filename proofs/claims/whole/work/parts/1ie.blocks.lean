/-! ORDERS ON THE PROCESSOR: their pieces -/
theorem vput_vv {r : Nat → Int} {d : Nat} {a b : Int} : vput (vput r d a) d b = vput r d b := by
  funext k
  unfold vput
  by_cases c : k = d
  · rw [if_pos c, if_pos c]
  · rw [if_neg c, if_neg c, if_neg c]
def clv (v : Int) : Int := if -256 ≤ v ∧ v ≤ 255 then 1 else 2
section Blk
variable {n : Nat} {W : Nat → Int} {ni : Int} {ip : Nat → Int} {pc p2 tk ou v x A o q a : Int} {r r' r1 Y Y' sn sn' : Nat → Int} {d : Nat} {P N : Int → Int} {f : Bool} {lk t : Int} {z : Int × Int × (Nat → Int)}
theorem l_off {q : Int} : ((((cOff q).map lit).length : Nat) : Int) = 2 := rfl
theorem l_on {q : Int} : ((((cOn q).map lit).length : Nat) : Int) = 2 := rfl
theorem l_pl {q : Int} : ((((cPl q v).map lit).length : Nat) : Int) = 2 := rfl
theorem l_iL : (((iL o q a x).length : Nat) : Int) = 1 := rfl
theorem l_nt : (((iNt q t).length : Nat) : Int) = 2 := rfl
theorem l_go : (((iGo f lk).length : Nat) : Int) = gsz f := by
  cases f <;> rfl
theorem l_co {q : Int} : ((((cCo q v).map lit).length : Nat) : Int) = clv v := by
  unfold cCo clv
  split <;> rfl
theorem gsz_q : 1 ≤ gsz f ∧ gsz f ≤ 3 := by
  cases f <;> decide
theorem clv_b : 1 ≤ clv v ∧ clv v ≤ 2 := by
  unfold clv
  split <;> omega
theorem fin_0 {w : Int} : finW P N pc (lit w) = w := by
  show w + (if (0 : Int) = 1 then _ else if (0 : Int) = 2 then _ else if (0 : Int) = 3 then _ else if (0 : Int) = 4 then _ else if (0 : Int) = 5 then _ else 0) = w
  rw [if_neg (by decide), if_neg (by decide), if_neg (by decide), if_neg (by decide), if_neg (by decide), Int.add_zero]
theorem wl (h : WdOk P N W (iL o q a x) pc) : W pc.toNat = wrd o q a (lw o x) := by
  have z : W pc.toNat = finW P N pc (lit (wrd o q a (lw o x))) := h.1
  rw [z, fin_0]
theorem X_off (hn : n ≤ 8192) (hp : 0 ≤ pc ∧ pc + 1 < n ∧ p2 = pc + 2) (hd : d < 7) (h : WdOk P N W ((cOff (d : Int)).map lit) pc) (h7 : r 7 - 1 = x) (hx : (n : Int) ≤ x ∧ x < 8192) (hv : Y x.toNat = v) (e1 : r1 = vput r 7 x) (e2 : r' = vput r1 d v) : Rn n W ni ip (pc, r, Y, tk, ou, sn) (p2, r', Y, tk, ou, sn) := by
  have w0 : W pc.toNat = finW P N pc (lit (wrd 10 7 7 63)) := h.1
  have w1 : W (pc + 1).toNat = finW P N (pc + 1) (lit (wrd 8 d 7 0)) := h.2.1
  rw [fin_0] at w0 w1
  refine Rn_tr (J_addi (p2 := pc + 1) (d := 7) (a := 7) (x := -1) (v := x) hn ⟨hp.1, by omega, rfl⟩ (by decide) (by decide) (w0.trans (by decide)) (by omega) e1) (J_ld (d := d) (a := 7) (x := 0) (A := x) (v := v) hn ⟨by omega, hp.2.1, by omega⟩ ⟨by omega, by decide⟩ (by decide) w1 ?_ hx hv e2)
  rw [e1]
  show (if (7 : Nat) = 7 then x else r 7) + 0 = x
  rw [if_pos rfl]
  omega
theorem X_on (hn : n ≤ 8192) (hp : 0 ≤ pc ∧ pc + 1 < n ∧ p2 = pc + 2) (hd : d < 7) (h : WdOk P N W ((cOn (d : Int)).map lit) pc) (h7 : r 7 = x) (hx : (n : Int) ≤ x ∧ x < 8192) (hv : r d = v) (ey : Y' = vput Y x.toNat v) (e1 : r' = vput r 7 (x + 1)) : Rn n W ni ip (pc, r, Y, tk, ou, sn) (p2, r', Y', tk, ou, sn) := by
  have w0 : W pc.toNat = finW P N pc (lit (wrd 9 d 7 0)) := h.1
  have w1 : W (pc + 1).toNat = finW P N (pc + 1) (lit (wrd 10 7 7 1)) := h.2.1
  rw [fin_0] at w0 w1
  exact Rn_tr (J_st (p2 := pc + 1) (d := d) (a := 7) (x := 0) (A := x) hn ⟨hp.1, by omega, rfl⟩ ⟨by omega, by decide⟩ (by decide) w0 (by omega) hx (by rw [hv]; exact ey)) (J_addi (d := 7) (a := 7) (x := 1) (v := x + 1) hn ⟨by omega, hp.2.1, by omega⟩ (by decide) (by decide) w1 (by omega) e1)
theorem X_pl (hn : n ≤ 8192) (hp : 0 ≤ pc ∧ pc + 1 < n ∧ p2 = pc + 2) (hd : d < 8) (h : WdOk P N W ((cPl (d : Int) v).map lit) pc) (hv : 0 ≤ v ∧ v < 65536) (e : r' = vput r d v) : Rn n W ni ip (pc, r, Y, z) (p2, r', Y, z) := by
  have w0 : W pc.toNat = finW P N pc (lit (wrd 6 d 0 (v % 256))) := h.1
  have w1 : W (pc + 1).toNat = finW P N (pc + 1) (lit (wrd 7 d 0 (v / 256 % 256))) := h.2.1
  rw [fin_0] at w0 w1
  exact J_pl (d := d) (x := v) hn hp hd hv w0 w1 rfl (by rw [vput_vv]; exact e)
theorem X_co (hn : n ≤ 8192) (hp : 0 ≤ pc ∧ pc + clv v ≤ n ∧ p2 = pc + clv v) (hd : d < 8) (h : WdOk P N W ((cCo (d : Int) v).map lit) pc) (hv : 0 ≤ v ∧ v < 65536) (e : r' = vput r d v) : Rn n W ni ip (pc, r, Y, z) (p2, r', Y, z) := by
  unfold cCo at h
  unfold clv at hp
  by_cases c : -256 ≤ v ∧ v ≤ 255
  · rw [if_pos c] at h hp
    have w0 : W pc.toNat = finW P N pc (lit (wrd 6 d 0 (v % 512))) := h.1
    rw [fin_0] at w0
    exact J_li (d := d) (x := v) (v := v) hn ⟨hp.1, by omega, hp.2.2⟩ hd c w0 (by omega) e
  · rw [if_neg c] at h hp
    exact X_pl hn ⟨hp.1, by omega, hp.2.2⟩ hd h hv e
theorem X_nt (hn : n ≤ 8192) (hp : 0 ≤ pc ∧ pc + 1 < n ∧ p2 = pc + 2) (hd : d < 8) (h : WdOk P N W (iNt (d : Int) t) pc) (hv : N t = v) (hv2 : 0 ≤ v ∧ v < 65536) (e : r' = vput r d v) : Rn n W ni ip (pc, r, Y, z) (p2, r', Y, z) := by
  have w0 : W pc.toNat = wrd 6 d 0 0 + N t % 256 := h.1
  have w1 : W (pc + 1).toNat = wrd 7 d 0 0 + N t / 256 % 256 := h.2.1
  rw [hv] at w0 w1
  refine J_pl (d := d) (x := v) hn hp hd hv2 ?_ ?_ rfl (by rw [vput_vv]; exact e)
  · rw [w0]
    unfold wrd
    omega
  · rw [w1]
    unfold wrd
    omega
theorem X_go {r0 r1 r2 r3 r4 r5 r6 r7 : Int} (hn : n ≤ 8192) (hp : 0 ≤ pc ∧ pc + gsz f ≤ n) (h : WdOk P N W (iGo f lk) pc) (hP : P lk = p2) (h2 : 0 ≤ p2 ∧ p2 < 65536) (hf : f = false → ¬ outR p2 pc) : ∃ s5, Rn n W ni ip (pc, R8 r0 r1 r2 r3 r4 r5 r6 r7, Y, z) (p2, R8 r0 r1 r2 r3 r4 s5 r6 r7, Y, z) := by
  cases f with
  | false =>
    have w0 : W pc.toNat = wrd 14 0 0 0 + (P lk - pc - 1) % 4096 := h.1
    have hr := hf rfl
    have hg : pc + 1 ≤ n := hp.2
    refine ⟨r5, J_ju (x := p2 - pc - 1) hn ⟨hp.1, by omega, by omega⟩ (by omega) ?_ h2.1⟩
    rw [w0, hP]
    unfold wrd
    omega
  | true =>
    have w0 : W pc.toNat = wrd 6 5 0 0 + P lk % 256 := h.1
    have w1 : W (pc + 1).toNat = wrd 7 5 0 0 + P lk / 256 % 256 := h.2.1
    have w2 : W (pc + 1 + 1).toNat = finW P N (pc + 1 + 1) (lit (wrd 13 5 5 0)) := h.2.2.1
    have hg : pc + 3 ≤ n := hp.2
    rw [fin_0] at w2
    rw [hP] at w0 w1
    refine ⟨pc + 1 + 1 + 1, Rn_tr (T := (pc + 1 + 1, R8 r0 r1 r2 r3 r4 p2 r6 r7, Y, z)) (J_pl (d := 5) (x := p2) hn ⟨hp.1, by omega, by omega⟩ (by decide) h2 ?_ ?_ rfl (by rw [vput_vv]; exact v8_5)) (J_call (d := 5) (a := 5) hn ⟨by omega, by omega⟩ (by decide) w2 rfl v8_5)⟩
    · rw [w0]
      unfold wrd
      omega
    · rw [w1]
      unfold wrd
      omega
end Blk
