/-! THE PROCESSOR'S WORDS, by name -/
/-- eight registers -/
def R8 (r0 r1 r2 r3 r4 r5 r6 r7 : Int) : Nat → Int := fun k => if k = 0 then r0 else if k = 1 then r1 else if k = 2 then r2 else if k = 3 then r3 else if k = 4 then r4 else if k = 5 then r5 else if k = 6 then r6 else if k = 7 then r7 else 0
section R8s
variable {r0 r1 r2 r3 r4 r5 r6 r7 v : Int}
theorem v8_0 : R8 v r1 r2 r3 r4 r5 r6 r7 = vput (R8 r0 r1 r2 r3 r4 r5 r6 r7) 0 v := by
  funext k
  unfold vput R8
  by_cases c : k = 0
  · rw [if_pos c, if_pos c]
  · rw [if_neg c, if_neg c, if_neg c]
theorem v8_1 : R8 r0 v r2 r3 r4 r5 r6 r7 = vput (R8 r0 r1 r2 r3 r4 r5 r6 r7) 1 v := by
  funext k
  unfold vput R8
  by_cases c : k = 1
  · subst c; rfl
  · rw [if_neg c, if_neg c, if_neg c]
theorem v8_2 : R8 r0 r1 v r3 r4 r5 r6 r7 = vput (R8 r0 r1 r2 r3 r4 r5 r6 r7) 2 v := by
  funext k
  unfold vput R8
  by_cases c : k = 2
  · subst c; rfl
  · rw [if_neg c, if_neg c, if_neg c]
theorem v8_3 : R8 r0 r1 r2 v r4 r5 r6 r7 = vput (R8 r0 r1 r2 r3 r4 r5 r6 r7) 3 v := by
  funext k
  unfold vput R8
  by_cases c : k = 3
  · subst c; rfl
  · rw [if_neg c, if_neg c, if_neg c]
theorem v8_4 : R8 r0 r1 r2 r3 v r5 r6 r7 = vput (R8 r0 r1 r2 r3 r4 r5 r6 r7) 4 v := by
  funext k
  unfold vput R8
  by_cases c : k = 4
  · subst c; rfl
  · rw [if_neg c, if_neg c, if_neg c]
theorem v8_5 : R8 r0 r1 r2 r3 r4 v r6 r7 = vput (R8 r0 r1 r2 r3 r4 r5 r6 r7) 5 v := by
  funext k
  unfold vput R8
  by_cases c : k = 5
  · subst c; rfl
  · rw [if_neg c, if_neg c, if_neg c]
theorem v8_6 : R8 r0 r1 r2 r3 r4 r5 v r7 = vput (R8 r0 r1 r2 r3 r4 r5 r6 r7) 6 v := by
  funext k
  unfold vput R8
  by_cases c : k = 6
  · subst c; rfl
  · rw [if_neg c, if_neg c, if_neg c]
theorem v8_7 : R8 r0 r1 r2 r3 r4 r5 r6 v = vput (R8 r0 r1 r2 r3 r4 r5 r6 r7) 7 v := by
  funext k
  unfold vput R8
  by_cases c : k = 7
  · subst c; rfl
  · rw [if_neg c, if_neg c, if_neg c]
end R8s
section Wds
variable {n : Nat} {W : Nat → Int} {ni : Int} {ip : Nat → Int} {pc p2 tk ou v x A : Int} {r r' Y Y' sn sn' : Nat → Int} {d a b : Nat} {z : Int × Int × (Nat → Int)}
theorem J_add (hn : n ≤ 8192) (hp : 0 ≤ pc ∧ pc < n ∧ p2 = pc + 1) (hq : d < 8 ∧ a < 8 ∧ b < 8) (hw : W pc.toNat = wrd 0 d a (lw 0 b)) (hv : (r a + r b) % 65536 = v) (hr : r' = vput r d v) : Rn n W ni ip (pc, r, Y, z) (p2, r', Y, z) := by
  have e : lw 0 (b : Int) = (b : Int) * 8 := rfl
  rw [e] at hw
  have z := I_res (n := n) (W := W) (ni := ni) (ip := ip) (r := r) (Y := Y) (z := z) (o := 0) (d := d) (a := a) (b := b) hn ⟨hp.1, hp.2.1⟩ hw (by unfold wrd; omega) (by unfold wrd; omega) (by unfold wrd; omega) (by unfold wrd; omega) (by omega)
  rw [show res 0 (wrd 0 d a (b * 8)) (r a) (r b) (r d) = v from hv, ← hr, ← hp.2.2] at z
  exact z
theorem J_sub (hn : n ≤ 8192) (hp : 0 ≤ pc ∧ pc < n ∧ p2 = pc + 1) (hq : d < 8 ∧ a < 8 ∧ b < 8) (hw : W pc.toNat = wrd 1 d a (lw 1 b)) (hv : (r a - r b) % 65536 = v) (hr : r' = vput r d v) : Rn n W ni ip (pc, r, Y, z) (p2, r', Y, z) := by
  have e : lw 1 (b : Int) = (b : Int) * 8 := rfl
  rw [e] at hw
  have z := I_res (n := n) (W := W) (ni := ni) (ip := ip) (r := r) (Y := Y) (z := z) (o := 1) (d := d) (a := a) (b := b) hn ⟨hp.1, hp.2.1⟩ hw (by unfold wrd; omega) (by unfold wrd; omega) (by unfold wrd; omega) (by unfold wrd; omega) (by omega)
  rw [show res 1 (wrd 1 d a (b * 8)) (r a) (r b) (r d) = v from hv, ← hr, ← hp.2.2] at z
  exact z
theorem J_and (hn : n ≤ 8192) (hp : 0 ≤ pc ∧ pc < n ∧ p2 = pc + 1) (hq : d < 8 ∧ a < 8 ∧ b < 8) (hw : W pc.toNat = wrd 2 d a (lw 2 b)) (hv : iand (r a) (r b) = v) (hr : r' = vput r d v) : Rn n W ni ip (pc, r, Y, z) (p2, r', Y, z) := by
  have e : lw 2 (b : Int) = (b : Int) * 8 := rfl
  rw [e] at hw
  have z := I_res (n := n) (W := W) (ni := ni) (ip := ip) (r := r) (Y := Y) (z := z) (o := 2) (d := d) (a := a) (b := b) hn ⟨hp.1, hp.2.1⟩ hw (by unfold wrd; omega) (by unfold wrd; omega) (by unfold wrd; omega) (by unfold wrd; omega) (by omega)
  rw [show res 2 (wrd 2 d a (b * 8)) (r a) (r b) (r d) = v from hv, ← hr, ← hp.2.2] at z
  exact z
theorem J_xor (hn : n ≤ 8192) (hp : 0 ≤ pc ∧ pc < n ∧ p2 = pc + 1) (hq : d < 8 ∧ a < 8 ∧ b < 8) (hw : W pc.toNat = wrd 3 d a (lw 3 b)) (hv : ixor (r a) (r b) = v) (hr : r' = vput r d v) : Rn n W ni ip (pc, r, Y, z) (p2, r', Y, z) := by
  have e : lw 3 (b : Int) = (b : Int) * 8 := rfl
  rw [e] at hw
  have z := I_res (n := n) (W := W) (ni := ni) (ip := ip) (r := r) (Y := Y) (z := z) (o := 3) (d := d) (a := a) (b := b) hn ⟨hp.1, hp.2.1⟩ hw (by unfold wrd; omega) (by unfold wrd; omega) (by unfold wrd; omega) (by unfold wrd; omega) (by omega)
  rw [show res 3 (wrd 3 d a (b * 8)) (r a) (r b) (r d) = v from hv, ← hr, ← hp.2.2] at z
  exact z
theorem J_less (hn : n ≤ 8192) (hp : 0 ≤ pc ∧ pc < n ∧ p2 = pc + 1) (hq : d < 8 ∧ a < 8 ∧ b < 8) (hw : W pc.toNat = wrd 4 d a (lw 4 b)) (hv : (if sg (r a) < sg (r b) then 1 else 0) = v) (hr : r' = vput r d v) : Rn n W ni ip (pc, r, Y, z) (p2, r', Y, z) := by
  have e : lw 4 (b : Int) = (b : Int) * 8 := rfl
  rw [e] at hw
  have z := I_res (n := n) (W := W) (ni := ni) (ip := ip) (r := r) (Y := Y) (z := z) (o := 4) (d := d) (a := a) (b := b) hn ⟨hp.1, hp.2.1⟩ hw (by unfold wrd; omega) (by unfold wrd; omega) (by unfold wrd; omega) (by unfold wrd; omega) (by omega)
  rw [show res 4 (wrd 4 d a (b * 8)) (r a) (r b) (r d) = v from hv, ← hr, ← hp.2.2] at z
  exact z
theorem J_half (hn : n ≤ 8192) (hp : 0 ≤ pc ∧ pc < n ∧ p2 = pc + 1) (hq : d < 8 ∧ a < 8) (hw : W pc.toNat = wrd 5 d a (lw 5 x)) (hv : r a / 2 = v) (hr : r' = vput r d v) : Rn n W ni ip (pc, r, Y, z) (p2, r', Y, z) := by
  have e : lw 5 x = 0 := rfl
  rw [e] at hw
  have z := I_res (n := n) (W := W) (ni := ni) (ip := ip) (r := r) (Y := Y) (z := z) (o := 5) (d := d) (a := a) (b := 0) hn ⟨hp.1, hp.2.1⟩ hw (by unfold wrd; omega) (by unfold wrd; omega) (by unfold wrd; omega) (by unfold wrd; omega) (by omega)
  rw [show res 5 (wrd 5 d a 0) (r a) (r 0) (r d) = v from hv, ← hr, ← hp.2.2] at z
  exact z
theorem bm_512v {w : Int} (hx : -256 ≤ x ∧ x ≤ 255) (h : w % 512 = x % 512) : Int.bmod w 512 = x := by
  rw [Int.bmod_def]
  omega
theorem bm_64v {w : Int} (hx : -32 ≤ x ∧ x ≤ 31) (h : w % 64 = x % 64) : Int.bmod w 64 = x := by
  rw [Int.bmod_def]
  omega
theorem bm_4096v {w : Int} (hx : -2048 ≤ x ∧ x ≤ 2047) (h : w % 4096 = x % 4096) : Int.bmod w 4096 = x := by
  rw [Int.bmod_def]
  omega
theorem J_li (hn : n ≤ 8192) (hp : 0 ≤ pc ∧ pc < n ∧ p2 = pc + 1) (hq : d < 8) (hx : -256 ≤ x ∧ x ≤ 255) (hw : W pc.toNat = wrd 6 d 0 (x % 512)) (hv : x % 65536 = v) (hr : r' = vput r d v) : Rn n W ni ip (pc, r, Y, z) (p2, r', Y, z) := by
  have z := I_res (n := n) (W := W) (ni := ni) (ip := ip) (r := r) (Y := Y) (z := z) (o := 6) (d := d) (a := ((wrd 6 d 0 (x % 512)) / 64 % 8).toNat) (b := ((wrd 6 d 0 (x % 512)) / 8 % 8).toNat) hn ⟨hp.1, hp.2.1⟩ hw (by unfold wrd; omega) (by unfold wrd; omega) (by omega) (by omega) (by omega)
  have hb : Int.bmod (wrd 6 d 0 (x % 512)) 512 = x := bm_512v hx (by unfold wrd; omega)
  rw [show res 6 (wrd 6 d 0 (x % 512)) (r ((wrd 6 d 0 (x % 512)) / 64 % 8).toNat) (r ((wrd 6 d 0 (x % 512)) / 8 % 8).toNat) (r d) = v from by
    show Int.bmod (wrd 6 d 0 (x % 512)) 512 % 65536 = v
    rw [hb]
    exact hv, ← hr, ← hp.2.2] at z
  exact z
theorem J_hi (hn : n ≤ 8192) (hp : 0 ≤ pc ∧ pc < n ∧ p2 = pc + 1) (hq : d < 8) (hx : 0 ≤ x ∧ x < 256) (hw : W pc.toNat = wrd 7 d 0 x) (hv : x * 256 + r d % 256 = v) (hr : r' = vput r d v) : Rn n W ni ip (pc, r, Y, z) (p2, r', Y, z) := by
  have z := I_res (n := n) (W := W) (ni := ni) (ip := ip) (r := r) (Y := Y) (z := z) (o := 7) (d := d) (a := ((wrd 7 d 0 x) / 64 % 8).toNat) (b := ((wrd 7 d 0 x) / 8 % 8).toNat) hn ⟨hp.1, hp.2.1⟩ hw (by unfold wrd; omega) (by unfold wrd; omega) (by omega) (by omega) (by omega)
  have hb : ishl (wrd 7 d 0 x % 256) 8 = x * 256 := by
    have e := ishl_k 8 (by decide) (wrd 7 d 0 x % 256)
    have e2 : wrd 7 d 0 x % 256 = x := by unfold wrd; omega
    rw [show ((8 : Nat) : Int) = 8 from rfl, e2] at e
    rw [e2, e]
    exact w32_of (by show -2147483648 ≤ x * 256; omega) (by show x * 256 < 2147483648; omega)
  rw [show res 7 (wrd 7 d 0 x) (r ((wrd 7 d 0 x) / 64 % 8).toNat) (r ((wrd 7 d 0 x) / 8 % 8).toNat) (r d) = v from by
    show ior (ishl (wrd 7 d 0 x % 256) 8) (r d % 256) = v
    rw [hb, ← hv]
    exact ior_add 8 (by decide) hx.1 (by omega) (by show r d % 256 < 256; omega) (by show x * 256 + r d % 256 < 2147483648; omega), ← hr, ← hp.2.2] at z
  exact z
theorem J_addi (hn : n ≤ 8192) (hp : 0 ≤ pc ∧ pc < n ∧ p2 = pc + 1) (hq : d < 8 ∧ a < 8) (hx : -32 ≤ x ∧ x ≤ 31) (hw : W pc.toNat = wrd 10 d a (x % 64)) (hv : (r a + x) % 65536 = v) (hr : r' = vput r d v) : Rn n W ni ip (pc, r, Y, z) (p2, r', Y, z) := by
  have z := I_res (n := n) (W := W) (ni := ni) (ip := ip) (r := r) (Y := Y) (z := z) (o := 10) (d := d) (a := a) (b := ((wrd 10 d a (x % 64)) / 8 % 8).toNat) hn ⟨hp.1, hp.2.1⟩ hw (by unfold wrd; omega) (by unfold wrd; omega) (by unfold wrd; omega) (by omega) (by omega)
  have hb : Int.bmod (wrd 10 d a (x % 64)) 64 = x := bm_64v hx (by unfold wrd; omega)
  rw [show res 10 (wrd 10 d a (x % 64)) (r a) (r ((wrd 10 d a (x % 64)) / 8 % 8).toNat) (r d) = v from by
    show (r a + Int.bmod (wrd 10 d a (x % 64)) 64) % 65536 = v
    rw [hb]
    exact hv, ← hr, ← hp.2.2] at z
  exact z
theorem J_ld (hn : n ≤ 8192) (hp : 0 ≤ pc ∧ pc < n ∧ p2 = pc + 1) (hq : d < 8 ∧ a < 8) (hx : -32 ≤ x ∧ x ≤ 31) (hw : W pc.toNat = wrd 8 d a (x % 64)) (hA : r a + x = A) (hA2 : (n : Int) ≤ A ∧ A < 8192) (hv : Y A.toNat = v) (hr : r' = vput r d v) : Rn n W ni ip (pc, r, Y, tk, ou, sn) (p2, r', Y, tk, ou, sn) := by
  have hb : Int.bmod (wrd 8 d a (x % 64)) 64 = x := bm_64v hx (by unfold wrd; omega)
  have z := I_load (n := n) (W := W) (ni := ni) (ip := ip) (r := r) (Y := Y) (tk := tk) (ou := ou) (sn := sn) (A := A) (d := d) (a := a) hn ⟨hp.1, hp.2.1⟩ hw (by unfold wrd; omega) (by unfold wrd; omega) (by unfold wrd; omega) (by rw [hb, hA]; omega)
  rw [if_neg (by omega), show ldv n W ni ip Y tk A = v from by unfold ldv; rw [if_pos (by omega), if_neg (by omega)]; exact hv, ← hr, ← hp.2.2] at z
  exact z
theorem J_ldp (hn : n ≤ 8192) (hp : 0 ≤ pc ∧ pc < n ∧ p2 = pc + 1) (hq : d < 8 ∧ a < 8) (hw : W pc.toNat = wrd 8 d a 0) (hA : r a = 65280) (ht : tk < ni) (hv : ip tk.toNat = v) (hr : r' = vput r d v) : Rn n W ni ip (pc, r, Y, tk, ou, sn) (p2, r', Y, tk + 1, ou, sn) := by
  have hb : Int.bmod (wrd 8 d a 0) 64 = 0 := bm_64v (by omega) (by unfold wrd; omega)
  have z := I_load (n := n) (W := W) (ni := ni) (ip := ip) (r := r) (Y := Y) (tk := tk) (ou := ou) (sn := sn) (A := 65280) (d := d) (a := a) hn ⟨hp.1, hp.2.1⟩ hw (by unfold wrd; omega) (by unfold wrd; omega) (by unfold wrd; omega) (by rw [hb, hA]; rfl)
  rw [if_pos ⟨rfl, ht⟩, show ldv n W ni ip Y tk 65280 = v from by unfold ldv; rw [if_neg (by decide), if_pos rfl, if_pos ht]; exact hv, ← hr, ← hp.2.2] at z
  exact z
theorem J_ldn (hn : n ≤ 8192) (hp : 0 ≤ pc ∧ pc < n ∧ p2 = pc + 1) (hq : d < 8 ∧ a < 8) (hw : W pc.toNat = wrd 8 d a 1) (hA : r a = 65280) (hv : ni - tk = v) (hr : r' = vput r d v) : Rn n W ni ip (pc, r, Y, tk, ou, sn) (p2, r', Y, tk, ou, sn) := by
  have hb : Int.bmod (wrd 8 d a 1) 64 = 1 := bm_64v (by omega) (by unfold wrd; omega)
  have z := I_load (n := n) (W := W) (ni := ni) (ip := ip) (r := r) (Y := Y) (tk := tk) (ou := ou) (sn := sn) (A := 65281) (d := d) (a := a) hn ⟨hp.1, hp.2.1⟩ hw (by unfold wrd; omega) (by unfold wrd; omega) (by unfold wrd; omega) (by rw [hb, hA]; rfl)
  rw [if_neg (by omega), show ldv n W ni ip Y tk 65281 = v from by unfold ldv; rw [if_neg (by decide), if_neg (by decide), if_pos rfl]; exact hv, ← hr, ← hp.2.2] at z
  exact z
theorem J_st (hn : n ≤ 8192) (hp : 0 ≤ pc ∧ pc < n ∧ p2 = pc + 1) (hq : d < 8 ∧ a < 8) (hx : -32 ≤ x ∧ x ≤ 31) (hw : W pc.toNat = wrd 9 d a (x % 64)) (hA : r a + x = A) (hA2 : (n : Int) ≤ A ∧ A < 8192) (hy : Y' = vput Y A.toNat (r d)) : Rn n W ni ip (pc, r, Y, tk, ou, sn) (p2, r, Y', tk, ou, sn) := by
  have hb : Int.bmod (wrd 9 d a (x % 64)) 64 = x := bm_64v hx (by unfold wrd; omega)
  have z := I_st (n := n) (W := W) (ni := ni) (ip := ip) (r := r) (Y := Y) (tk := tk) (ou := ou) (sn := sn) (A := A) (d := d) (a := a) hn ⟨hp.1, hp.2.1⟩ hw (by unfold wrd; omega) (by unfold wrd; omega) (by unfold wrd; omega) (by rw [hb, hA]; omega) (Or.inl hA2)
  rw [if_pos hA2.2, if_pos hA2.2, if_pos hA2.2, ← hy, ← hp.2.2] at z
  exact z
theorem J_stp (hn : n ≤ 8192) (hp : 0 ≤ pc ∧ pc < n ∧ p2 = pc + 1) (hq : d < 8 ∧ a < 8) (hw : W pc.toNat = wrd 9 d a 0) (hA : r a = 65280) (hs : sn' = if ou < 500 then vput sn ou.toNat (r d) else sn) : Rn n W ni ip (pc, r, Y, tk, ou, sn) (p2, r, Y, tk, ou + 1, sn') := by
  have hb : Int.bmod (wrd 9 d a 0) 64 = 0 := bm_64v (by omega) (by unfold wrd; omega)
  have z := I_st (n := n) (W := W) (ni := ni) (ip := ip) (r := r) (Y := Y) (tk := tk) (ou := ou) (sn := sn) (A := 65280) (d := d) (a := a) hn ⟨hp.1, hp.2.1⟩ hw (by unfold wrd; omega) (by unfold wrd; omega) (by unfold wrd; omega) (by rw [hb, hA]; rfl) (Or.inr rfl)
  rw [if_neg (by decide), if_neg (by decide), if_neg (by decide), ← hs, ← hp.2.2] at z
  exact z
theorem J_jz1 (hn : n ≤ 8192) (hp : 0 ≤ pc ∧ pc < n ∧ p2 = pc + 1 + x) (hq : d < 8) (hx : -256 ≤ x ∧ x ≤ 255) (hw : W pc.toNat = wrd 11 d 0 (x % 512)) (hv : r d = 0) (h2 : 0 ≤ p2) : Rn n W ni ip (pc, r, Y, z) (p2, r, Y, z) := by
  have hb : Int.bmod (wrd 11 d 0 (x % 512)) 512 = x := bm_512v hx (by unfold wrd; omega)
  have z := I_jz (n := n) (W := W) (ni := ni) (ip := ip) (r := r) (Y := Y) (z := z) (d := d) hn ⟨hp.1, hp.2.1⟩ hw (by unfold wrd; omega) (by unfold wrd; omega) hb (by omega)
  rw [if_pos hv, ← hp.2.2] at z
  exact z
theorem J_jz0 (hn : n ≤ 8192) (hp : 0 ≤ pc ∧ pc < n ∧ p2 = pc + 1) (hq : d < 8) (hx : -256 ≤ x ∧ x ≤ 255) (hw : W pc.toNat = wrd 11 d 0 (x % 512)) (hv : r d ≠ 0) (h2 : 0 ≤ pc + 1 + x) : Rn n W ni ip (pc, r, Y, z) (p2, r, Y, z) := by
  have hb : Int.bmod (wrd 11 d 0 (x % 512)) 512 = x := bm_512v hx (by unfold wrd; omega)
  have z := I_jz (n := n) (W := W) (ni := ni) (ip := ip) (r := r) (Y := Y) (z := z) (d := d) hn ⟨hp.1, hp.2.1⟩ hw (by unfold wrd; omega) (by unfold wrd; omega) hb (by omega)
  rw [if_neg hv, ← hp.2.2] at z
  exact z
theorem J_jn1 (hn : n ≤ 8192) (hp : 0 ≤ pc ∧ pc < n ∧ p2 = pc + 1 + x) (hq : d < 8) (hx : -256 ≤ x ∧ x ≤ 255) (hw : W pc.toNat = wrd 12 d 0 (x % 512)) (hv : 32767 < r d) (h2 : 0 ≤ p2) : Rn n W ni ip (pc, r, Y, z) (p2, r, Y, z) := by
  have hb : Int.bmod (wrd 12 d 0 (x % 512)) 512 = x := bm_512v hx (by unfold wrd; omega)
  have z := I_jn (n := n) (W := W) (ni := ni) (ip := ip) (r := r) (Y := Y) (z := z) (d := d) hn ⟨hp.1, hp.2.1⟩ hw (by unfold wrd; omega) (by unfold wrd; omega) hb (by omega)
  rw [if_pos hv, ← hp.2.2] at z
  exact z
theorem J_jn0 (hn : n ≤ 8192) (hp : 0 ≤ pc ∧ pc < n ∧ p2 = pc + 1) (hq : d < 8) (hx : -256 ≤ x ∧ x ≤ 255) (hw : W pc.toNat = wrd 12 d 0 (x % 512)) (hv : ¬ 32767 < r d) (h2 : 0 ≤ pc + 1 + x) : Rn n W ni ip (pc, r, Y, z) (p2, r, Y, z) := by
  have hb : Int.bmod (wrd 12 d 0 (x % 512)) 512 = x := bm_512v hx (by unfold wrd; omega)
  have z := I_jn (n := n) (W := W) (ni := ni) (ip := ip) (r := r) (Y := Y) (z := z) (d := d) hn ⟨hp.1, hp.2.1⟩ hw (by unfold wrd; omega) (by unfold wrd; omega) hb (by omega)
  rw [if_neg hv, ← hp.2.2] at z
  exact z
theorem J_ju (hn : n ≤ 8192) (hp : 0 ≤ pc ∧ pc < n ∧ p2 = pc + 1 + x) (hx : -2048 ≤ x ∧ x ≤ 2047) (hw : W pc.toNat = wrd 14 0 0 (x % 4096)) (h2 : 0 ≤ p2) : Rn n W ni ip (pc, r, Y, z) (p2, r, Y, z) := by
  have hb : Int.bmod (wrd 14 0 0 (x % 4096)) 4096 = x := bm_4096v hx (by unfold wrd; omega)
  have z := I_ju (n := n) (W := W) (ni := ni) (ip := ip) (r := r) (Y := Y) (z := z) hn ⟨hp.1, hp.2.1⟩ hw (by unfold wrd; omega) hb (by omega)
  rw [← hp.2.2] at z
  exact z
theorem J_call (hn : n ≤ 8192) (hp : 0 ≤ pc ∧ pc < n) (hq : d < 8 ∧ a < 8) (hw : W pc.toNat = wrd 13 d a 0) (hv : r a = p2) (hr : r' = vput r d (pc + 1)) : Rn n W ni ip (pc, r, Y, z) (p2, r', Y, z) := by
  have z := I_call (n := n) (W := W) (ni := ni) (ip := ip) (r := r) (Y := Y) (z := z) (d := d) (a := a) hn hp hw (by unfold wrd; omega) (by unfold wrd; omega) (by unfold wrd; omega)
  rw [hv, ← hr] at z
  exact z
theorem J_halt (hn : n ≤ 8192) (hp : 0 ≤ pc ∧ pc < n) (hw : W pc.toNat = wrd 15 0 0 0) : Re n W ni ip (pc, r, Y, tk, ou, sn) r ou sn := I_halt hn hp hw (by decide)
/-- a place of two words -/
theorem J_pl {r1 : Nat → Int} (hn : n ≤ 8192) (hp : 0 ≤ pc ∧ pc + 1 < n ∧ p2 = pc + 2) (hq : d < 8) (hx : 0 ≤ x ∧ x < 65536) (hw : W pc.toNat = wrd 6 d 0 (x % 256)) (hw2 : W (pc + 1).toNat = wrd 7 d 0 (x / 256 % 256)) (h1 : r1 = vput r d (x % 256)) (hr : r' = vput r1 d x) : Rn n W ni ip (pc, r, Y, z) (p2, r', Y, z) := by
  refine Rn_tr (J_li (p2 := pc + 1) (d := d) (x := x % 256) (v := x % 256) hn ⟨hp.1, by omega, rfl⟩ hq (by omega) ?_ (by omega) h1) (J_hi (d := d) (x := x / 256 % 256) hn ⟨by omega, hp.2.1, by omega⟩ hq (by omega) hw2 ?_ hr)
  · rw [hw, show x % 256 % 512 = x % 256 from by omega]
  · rw [h1]
    show x / 256 % 256 * 256 + (if d = d then x % 256 else r d) % 256 = x
    rw [if_pos rfl]
    omega
end Wds
