/-! THE PROCESSOR, a word at a time: from rest to rest -/
/-- at rest: pc, registers, memory behind the code, inputs taken, outputs, what was sent -/
abbrev Ps : Type := Int × (Nat → Int) × (Nat → Int) × Int × Int × (Nat → Int)
def tikn : Nat → Mem → Mem
  | 0, m => m
  | k + 1, m => tikn k (tik id m)
theorem tikn_add : ∀ (a b : Nat) (m : Mem), tikn (a + b) m = tikn b (tikn a m)
  | 0, b, m => by rw [Nat.zero_add]; rfl
  | a + 1, b, m => by
    rw [show a + 1 + b = (a + b) + 1 from by omega]
    exact tikn_add a b (tik id m)
def Rst (n : Nat) (W : Nat → Int) (ni : Int) (ip : Nat → Int) (S : Ps) (m : Mem) : Prop := (m 78 2 = S.1 ∧ m 78 4 = S.1 ∧ m 78 6 = 0) ∧ (∀ k, k < 8 → m 80 k = S.2.1 k) ∧ (∀ k, m 79 k = if k < n then W k else S.2.2.1 k) ∧ m 78 9 = S.2.2.2.1 ∧ m 78 11 = S.2.2.2.2.1 ∧ (∀ k, m 82 k = S.2.2.2.2.2 k) ∧ m 78 8 = ni ∧ (∀ k, m 81 k = ip k)
/-- from rest to rest in some clocks -/
def Rn (n : Nat) (W : Nat → Int) (ni : Int) (ip : Nat → Int) (S S' : Ps) : Prop := ∀ m, Rst n W ni ip S m → ∃ k, 2 ≤ k ∧ Rst n W ni ip S' (tikn k m)
/-- from rest to the end -/
def Re (n : Nat) (W : Nat → Int) (ni : Int) (ip : Nat → Int) (S : Ps) (r : Nat → Int) (ou : Int) (sn : Nat → Int) : Prop := ∀ m, Rst n W ni ip S m → ∃ k, hlt (tikn k m) ∧ (∀ j, j < 8 → tikn k m 80 j = r j) ∧ tikn k m 78 11 = ou ∧ ∀ j, tikn k m 82 j = sn j
section Prc
variable {n : Nat} {W : Nat → Int} {ni : Int} {ip : Nat → Int} {S T U : Ps} {pc tk ou w o x : Int} {r Y sn : Nat → Int} {d a b : Nat} {z : Int × Int × (Nat → Int)}
theorem Rn_tr (h1 : Rn n W ni ip S T) (h2 : Rn n W ni ip T U) : Rn n W ni ip S U := fun m hm => by
  obtain ⟨k, k0, k1⟩ := h1 m hm
  obtain ⟨j, j0, j1⟩ := h2 _ k1
  exact ⟨k + j, by omega, by rw [tikn_add]; exact j1⟩
theorem Re_tr {r2 : Nat → Int} (h1 : Rn n W ni ip S T) (h2 : Re n W ni ip T r2 ou sn) : Re n W ni ip S r2 ou sn := fun m hm => by
  obtain ⟨k, k0, k1⟩ := h1 m hm
  obtain ⟨j, j1⟩ := h2 _ k1
  exact ⟨k + j, by rw [tikn_add]; exact j1⟩
/-- a word is read -/
def fch (m : Mem) (w pc : Int) : Mem := put (put (put m 78 3 w) 78 2 (pc + 1)) 78 6 1
theorem tik_0 {m : Mem} (hn : n ≤ 8192) (hp : 0 ≤ pc ∧ pc < n) (hw : W pc.toNat = w) (R : Rst n W ni ip (pc, r, Y, z) m) : tik id m = fch m w pc := by
  obtain ⟨⟨r2, r4, r6⟩, -, r79, -⟩ := R
  have hd : dat m = w := by
    unfold dat
    rw [r4, if_pos (by show pc < 8192; omega), r79, if_pos (by show pc.toNat < n; omega)]
    exact hw
  unfold tik
  rw [if_pos r6, hd, r2]
  show put (put (put m 78 3 w) 78 2 ((pc + 1) % 65536)) 78 6 1 = _
  rw [show (pc + 1) % 65536 = pc + 1 from by omega]
  rfl
theorem tik_1 {m : Mem} : tik id (fch m w pc) = act (fch m w pc) := rfl
theorem fc_3 {m : Mem} : fch m w pc 78 3 = w := rfl
theorem fc_2 {m : Mem} : fch m w pc 78 2 = pc + 1 := rfl
theorem fc_80 {m : Mem} {k : Nat} : fch m w pc 80 k = m 80 k := rfl
/-- behind an action: at rest again -/
theorem nx_Rst {m : Mem} {r2 : Nat → Int} {p2 : Int} (R : Rst n W ni ip (pc, r, Y, z) m) {X : Mem} (h2 : X 78 2 = p2) (hr : ∀ k, k < 8 → X 80 k = r2 k) (hk : ∀ a k, a ≠ 80 → (a = 78 → k = 8 ∨ k = 9 ∨ k = 11) → X a k = m a k) : Rst n W ni ip (p2, r2, Y, z) (nx X) := by
  obtain ⟨⟨r2', r4, r6⟩, r80, r79, r9, r11, r82, r8, r81⟩ := R
  refine ⟨⟨h2, h2, rfl⟩, hr, fun k => ?_, ?_, ?_, fun k => ?_, ?_, fun k => ?_⟩
  · show X 79 k = _
    rw [hk 79 k (by decide) (fun w => absurd w (by decide))]
    exact r79 k
  · show X 78 9 = _
    rw [hk 78 9 (by decide) (by omega)]
    exact r9
  · show X 78 11 = _
    rw [hk 78 11 (by decide) (by omega)]
    exact r11
  · show X 82 k = _
    rw [hk 82 k (by decide) (fun w => absurd w (by decide))]
    exact r82 k
  · show X 78 8 = _
    rw [hk 78 8 (by decide) (by omega)]
    exact r8
  · show X 81 k = _
    rw [hk 81 k (by decide) (fun w => absurd w (by decide))]
    exact r81 k
theorem fch_k {m : Mem} {a k : Nat} (h : a = 78 → k = 8 ∨ k = 9 ∨ k = 11) : fch m w pc a k = m a k := by
  unfold fch
  rw [put_ss, put_ss, put_ss]
  by_cases c : a = 78
  · have := h c
    rw [if_pos c, if_neg (by omega), if_pos c, if_neg (by omega), if_pos c, if_neg (by omega)]
  · rw [if_neg c, if_neg c, if_neg c]
theorem I_res (hn : n ≤ 8192) (hp : 0 ≤ pc ∧ pc < n) (hw : W pc.toNat = w) (ho : w / 4096 = o) (hd : w / 512 % 8 = (d : Int)) (ha : w / 64 % 8 = (a : Int)) (hb : w / 8 % 8 = (b : Int)) (h : 0 ≤ o ∧ o < 8 ∨ o = 10) : Rn n W ni ip (pc, r, Y, z) (pc + 1, vput r d (res o w (r a) (r b) (r d)), Y, z) := fun m R => by
  refine ⟨2, by decide, ?_⟩
  show Rst n W ni ip _ (tik id (tik id m))
  rw [tik_0 hn hp hw R, tik_1]
  have hr := R.2.1
  have e : act (fch m w pc) = nx (put (fch m w pc) 80 d (res o w (r a) (r b) (r d))) := by
    unfold act
    rw [fc_3, ho, if_neg (by omega), if_neg (by omega), if_pos (by omega), hd, ha, hb, fc_80, fc_80, fc_80, Int.toNat_natCast, Int.toNat_natCast, Int.toNat_natCast, hr a (by omega), hr b (by omega), hr d (by omega)]
  rw [e]
  refine nx_Rst R ?_ (fun k hk => ?_) (fun c k h1 h2 => ?_)
  · rfl
  · show (if k = d then _ else fch m w pc 80 k) = if k = d then _ else r k
    rw [fc_80, hr k hk]
  · rw [put_ss, if_neg h1]
    exact fch_k h2
theorem I_go {p2 : Int} (hn : n ≤ 8192) (hp : 0 ≤ pc ∧ pc < n) (hw : W pc.toNat = w) (he : ∀ m : Mem, (∀ k, k < 8 → m 80 k = r k) → m 78 3 = w → m 78 2 = pc + 1 → act m = nx (put m 78 2 p2)) : Rn n W ni ip (pc, r, Y, z) (p2, r, Y, z) := fun m R => by
  refine ⟨2, by decide, ?_⟩
  show Rst n W ni ip _ (tik id (tik id m))
  have hr := R.2.1
  rw [tik_0 hn hp hw R, tik_1, he (fch m w pc) (fun k hk => hr k hk) rfl rfl]
  refine nx_Rst R rfl (fun k hk => ?_) (fun c k h1 h2 => ?_)
  · exact hr k hk
  · have e : put (fch m w pc) 78 2 p2 c k = fch m w pc c k := by
      rw [put_ss]
      by_cases q : c = 78
      · have := h2 q
        rw [if_pos q, if_neg (by omega)]
      · rw [if_neg q]
    rw [e]
    exact fch_k h2
theorem nx_id {m : Mem} {v : Int} (h : m 78 2 = v) : nx m = nx (put m 78 2 v) := by
  have e : put m 78 2 v = m := by
    funext a k
    rw [put_ss]
    by_cases q : a = 78
    · rw [if_pos q]
      by_cases q2 : k = 2
      · rw [if_pos q2, q, q2, h]
      · rw [if_neg q2]
    · rw [if_neg q]
  rw [e]
theorem I_jz (hn : n ≤ 8192) (hp : 0 ≤ pc ∧ pc < n) (hw : W pc.toNat = w) (ho : w / 4096 = 11) (hd : w / 512 % 8 = (d : Int)) (hx : Int.bmod w 512 = x) (ht : 0 ≤ pc + 1 + x ∧ pc + 1 + x < 65536) : Rn n W ni ip (pc, r, Y, z) (if r d = 0 then pc + 1 + x else pc + 1, r, Y, z) := I_go hn hp hw (fun m h80 h3 h2 => by
  unfold act
  rw [h3, ho, if_neg (by decide), if_neg (by decide), if_neg (by decide), if_pos rfl, hd, Int.toNat_natCast, h80 d (by omega), hx, h2]
  by_cases c : r d = 0
  · rw [if_pos c, if_pos c, show (pc + 1 + x) % 65536 = pc + 1 + x from by omega]
  · rw [if_neg c, if_neg c]
    exact nx_id h2)
theorem I_jn (hn : n ≤ 8192) (hp : 0 ≤ pc ∧ pc < n) (hw : W pc.toNat = w) (ho : w / 4096 = 12) (hd : w / 512 % 8 = (d : Int)) (hx : Int.bmod w 512 = x) (ht : 0 ≤ pc + 1 + x ∧ pc + 1 + x < 65536) : Rn n W ni ip (pc, r, Y, z) (if 32767 < r d then pc + 1 + x else pc + 1, r, Y, z) := I_go hn hp hw (fun m h80 h3 h2 => by
  unfold act
  rw [h3, ho, if_neg (by decide), if_neg (by decide), if_neg (by decide), if_neg (by decide), if_pos rfl, hd, Int.toNat_natCast, h80 d (by omega), hx, h2]
  by_cases c : 32767 < r d
  · rw [if_pos c, if_pos c, show (pc + 1 + x) % 65536 = pc + 1 + x from by omega]
  · rw [if_neg c, if_neg c]
    exact nx_id h2)
theorem I_ju (hn : n ≤ 8192) (hp : 0 ≤ pc ∧ pc < n) (hw : W pc.toNat = w) (ho : w / 4096 = 14) (hx : Int.bmod w 4096 = x) (ht : 0 ≤ pc + 1 + x ∧ pc + 1 + x < 65536) : Rn n W ni ip (pc, r, Y, z) (pc + 1 + x, r, Y, z) := I_go hn hp hw (fun m h80 h3 h2 => by
  unfold act
  rw [h3, ho, if_neg (by decide), if_neg (by decide), if_neg (by decide), if_neg (by decide), if_neg (by decide), if_neg (by decide), if_pos rfl, hx, h2, show (pc + 1 + x) % 65536 = pc + 1 + x from by omega])
theorem I_call (hn : n ≤ 8192) (hp : 0 ≤ pc ∧ pc < n) (hw : W pc.toNat = w) (ho : w / 4096 = 13) (hd : w / 512 % 8 = (d : Int)) (ha : w / 64 % 8 = (a : Int)) : Rn n W ni ip (pc, r, Y, z) (r a, vput r d (pc + 1), Y, z) := fun m R => by
  refine ⟨2, by decide, ?_⟩
  show Rst n W ni ip _ (tik id (tik id m))
  rw [tik_0 hn hp hw R, tik_1]
  have hr := R.2.1
  have e : act (fch m w pc) = nx (put (put (fch m w pc) 80 d (pc + 1)) 78 2 (r a)) := by
    unfold act
    rw [fc_3, ho, if_neg (by decide), if_neg (by decide), if_neg (by decide), if_neg (by decide), if_neg (by decide), if_pos rfl, hd, ha, fc_2, fc_80, Int.toNat_natCast, Int.toNat_natCast, hr a (by omega)]
  rw [e]
  refine nx_Rst R rfl (fun k hk => ?_) (fun c k h1 h2 => ?_)
  · show (if k = d then _ else fch m w pc 80 k) = if k = d then _ else r k
    rw [fc_80, hr k hk]
  · rw [put_ss]
    by_cases q : c = 78
    · have := h2 q
      rw [if_pos q, if_neg (by omega), put_ss, if_neg h1]
      exact fch_k h2
    · rw [if_neg q, put_ss, if_neg h1]
      exact fch_k h2
theorem I_halt (hn : n ≤ 8192) (hp : 0 ≤ pc ∧ pc < n) (hw : W pc.toNat = w) (ho : w / 4096 = 15) : Re n W ni ip (pc, r, Y, tk, ou, sn) r ou sn := fun m R => by
  refine ⟨1, ?_⟩
  show hlt (tik id m) ∧ _
  rw [show tikn 1 m = tik id m from rfl, tik_0 hn hp hw R]
  obtain ⟨-, r80, -, -, r11, r82, -⟩ := R
  exact ⟨⟨rfl, ho⟩, fun j hj => r80 j hj, r11, fun j => r82 j⟩
/-- what a load sees -/
def ldv (n : Nat) (W : Nat → Int) (ni : Int) (ip : Nat → Int) (Y : Nat → Int) (tk A : Int) : Int := if A < 8192 then (if A.toNat < n then W A.toNat else Y A.toNat) else if A = 65280 then (if tk < ni then ip tk.toNat else 0) else if A = 65281 then ni - tk else 0
theorem I_load {A : Int} (hn : n ≤ 8192) (hp : 0 ≤ pc ∧ pc < n) (hw : W pc.toNat = w) (ho : w / 4096 = 8) (hd : w / 512 % 8 = (d : Int)) (ha : w / 64 % 8 = (a : Int)) (hA : (r a + Int.bmod w 64) % 65536 = A) : Rn n W ni ip (pc, r, Y, tk, ou, sn) (pc + 1, vput r d (ldv n W ni ip Y tk A), Y, (if A = 65280 ∧ tk < ni then tk + 1 else tk), ou, sn) := fun m R => by
  refine ⟨3, by decide, ?_⟩
  show Rst n W ni ip _ (tik id (tik id (tik id m)))
  rw [tik_0 hn hp hw R, tik_1]
  obtain ⟨⟨r2, r4, r6⟩, r80, r79, r9, r11, r82, r8, r81⟩ := R
  have e : act (fch m w pc) = put (put (fch m w pc) 78 4 A) 78 6 2 := by
    unfold act
    rw [fc_3, if_pos ho, ha, fc_80, Int.toNat_natCast, r80 a (by omega), hA]
  rw [e]
  generalize hX : put (put (fch m w pc) 78 4 A) 78 6 2 = X
  have x4 : X 78 4 = A := by rw [← hX]; rfl
  have x3 : X 78 3 = w := by rw [← hX]; rfl
  have x2 : X 78 2 = pc + 1 := by rw [← hX]; rfl
  have x6 : X 78 6 = 2 := by rw [← hX]; rfl
  have x9 : X 78 9 = tk := by rw [← hX]; exact r9
  have x8 : X 78 8 = ni := by rw [← hX]; exact r8
  have x11 : X 78 11 = ou := by rw [← hX]; exact r11
  have xo : ∀ c k, c ≠ 78 → X c k = m c k := fun c k hc => by
    rw [← hX, put_ss, if_neg hc, put_ss, if_neg hc]
    exact fch_k (fun q => absurd q hc)
  have hdt : dat X = ldv n W ni ip Y tk A := by
    unfold dat ldv
    rw [x4, x9, x8, xo 79 _ (by decide), xo 81 _ (by decide), r79, r81]
  have et : tik id X = nx (tkn (put X 80 d (ldv n W ni ip Y tk A))) := by
    unfold tik
    rw [x6, if_neg (by decide), if_neg (by decide), if_pos rfl, x3, hd, Int.toNat_natCast, hdt]
  rw [et]
  generalize hZ : put X 80 d (ldv n W ni ip Y tk A) = Z
  have z4 : Z 78 4 = A := by rw [← hZ]; exact x4
  have z9 : Z 78 9 = tk := by rw [← hZ]; exact x9
  have z8 : Z 78 8 = ni := by rw [← hZ]; exact x8
  have z2 : Z 78 2 = pc + 1 := by rw [← hZ]; exact x2
  have z11 : Z 78 11 = ou := by rw [← hZ]; exact x11
  have z80 : ∀ k, k < 8 → Z 80 k = vput r d (ldv n W ni ip Y tk A) k := fun k hk => by
    rw [← hZ]
    show (if k = d then _ else X 80 k) = if k = d then _ else r k
    rw [xo 80 k (by decide), r80 k hk]
  have zo : ∀ c k, c ≠ 78 → c ≠ 80 → Z c k = m c k := fun c k h1 h2 => by
    rw [← hZ, put_ss, if_neg h2]
    exact xo c k h1
  have ht : ∀ c k, c ≠ 78 → tkn Z c k = Z c k := fun c k h1 => by
    unfold tkn
    split
    · rw [put_ss, if_neg h1]
    · rfl
  have ht2 : ∀ k, k ≠ 9 → tkn Z 78 k = Z 78 k := fun k h1 => by
    unfold tkn
    split
    · rw [put_ss, if_pos rfl, if_neg h1]
    · rfl
  have ht9 : tkn Z 78 9 = if A = 65280 ∧ tk < ni then tk + 1 else tk := by
    unfold tkn
    rw [z4, z9, z8]
    by_cases c : A = 65280 ∧ tk < ni
    · rw [if_pos c, if_pos c]
      rfl
    · rw [if_neg c, if_neg c]
      exact z9
  refine ⟨⟨?_, ?_, rfl⟩, fun k hk => ?_, fun k => ?_, ?_, ?_, fun k => ?_, ?_, fun k => ?_⟩
  · show tkn Z 78 2 = _
    rw [ht2 2 (by decide)]
    exact z2
  · show tkn Z 78 2 = _
    rw [ht2 2 (by decide)]
    exact z2
  · show tkn Z 80 k = _
    rw [ht 80 k (by decide)]
    exact z80 k hk
  · show tkn Z 79 k = _
    rw [ht 79 k (by decide), zo 79 k (by decide) (by decide)]
    exact r79 k
  · exact ht9
  · show tkn Z 78 11 = _
    rw [ht2 11 (by decide)]
    exact z11
  · show tkn Z 82 k = _
    rw [ht 82 k (by decide), zo 82 k (by decide) (by decide)]
    exact r82 k
  · show tkn Z 78 8 = _
    rw [ht2 8 (by decide)]
    exact z8
  · show tkn Z 81 k = _
    rw [ht 81 k (by decide), zo 81 k (by decide) (by decide)]
    exact r81 k
theorem I_st {A : Int} (hn : n ≤ 8192) (hp : 0 ≤ pc ∧ pc < n) (hw : W pc.toNat = w) (ho : w / 4096 = 9) (hd : w / 512 % 8 = (d : Int)) (ha : w / 64 % 8 = (a : Int)) (hA : (r a + Int.bmod w 64) % 65536 = A) (hA2 : (n : Int) ≤ A ∧ A < 8192 ∨ A = 65280) : Rn n W ni ip (pc, r, Y, tk, ou, sn) (pc + 1, r, (if A < 8192 then vput Y A.toNat (r d) else Y), tk, (if A < 8192 then ou else ou + 1), (if A < 8192 then sn else if ou < 500 then vput sn ou.toNat (r d) else sn)) := fun m R => by
  refine ⟨3, by decide, ?_⟩
  show Rst n W ni ip _ (tik id (tik id (tik id m)))
  rw [tik_0 hn hp hw R, tik_1]
  obtain ⟨⟨r2, r4, r6⟩, r80, r79, r9, r11, r82, r8, r81⟩ := R
  have e : act (fch m w pc) = put (put (put (fch m w pc) 78 4 A) 78 6 3) 78 5 (r d) := by
    unfold act
    rw [fc_3, if_neg (by omega), if_pos ho, ha, hd, fc_80, fc_80, Int.toNat_natCast, Int.toNat_natCast, r80 a (by omega), r80 d (by omega), hA]
  rw [e]
  generalize hX : put (put (put (fch m w pc) 78 4 A) 78 6 3) 78 5 (r d) = X
  have x4 : X 78 4 = A := by rw [← hX]; rfl
  have x5 : X 78 5 = r d := by rw [← hX]; rfl
  have x2 : X 78 2 = pc + 1 := by rw [← hX]; rfl
  have x6 : X 78 6 = 3 := by rw [← hX]; rfl
  have x9 : X 78 9 = tk := by rw [← hX]; exact r9
  have x8 : X 78 8 = ni := by rw [← hX]; exact r8
  have x11 : X 78 11 = ou := by rw [← hX]; exact r11
  have xo : ∀ c k, c ≠ 78 → X c k = m c k := fun c k hc => by
    rw [← hX, put_ss, if_neg hc, put_ss, if_neg hc, put_ss, if_neg hc]
    exact fch_k (fun q => absurd q hc)
  have et : tik id X = nx (giv id X) := by
    unfold tik
    rw [x6, if_neg (by decide), if_neg (by decide), if_neg (by decide)]
  rw [et]
  by_cases c : A < 8192
  · have g : giv id X = put X 79 A.toNat (r d) := by
      unfold giv
      rw [x4, if_pos c, x5]
    rw [g, if_pos c, if_pos c, if_pos c]
    refine ⟨⟨x2, x2, rfl⟩, fun k hk => ?_, fun k => ?_, x9, x11, fun k => ?_, x8, fun k => ?_⟩
    · show X 80 k = _
      rw [xo 80 k (by decide)]
      exact r80 k hk
    · show (if k = A.toNat then r d else X 79 k) = if k < n then W k else (if k = A.toNat then r d else Y k)
      by_cases c2 : k = A.toNat
      · rw [if_pos c2, if_neg (by omega), if_pos c2]
      · rw [if_neg c2, if_neg c2, xo 79 k (by decide)]
        exact r79 k
    · show X 82 k = _
      rw [xo 82 k (by decide)]
      exact r82 k
    · show X 81 k = _
      rw [xo 81 k (by decide)]
      exact r81 k
  · have hA3 : A = 65280 := by omega
    have g : giv id X = put (if ou < 500 then put X 82 ou.toNat (r d) else X) 78 11 (ou + 1) := by
      unfold giv
      rw [x4, if_neg c, if_pos hA3, x11, x5]
      rfl
    rw [g, if_neg c, if_neg c, if_neg c]
    have go : ∀ c k, c ≠ 82 → (if ou < 500 then put X 82 ou.toNat (r d) else X) c k = X c k := fun c k h1 => by
      split
      · rw [put_ss, if_neg h1]
      · rfl
    refine ⟨⟨?_, ?_, rfl⟩, fun k hk => ?_, fun k => ?_, ?_, rfl, fun k => ?_, ?_, fun k => ?_⟩
    · show (if ou < 500 then put X 82 ou.toNat (r d) else X) 78 2 = _
      rw [go 78 2 (by decide)]
      exact x2
    · show (if ou < 500 then put X 82 ou.toNat (r d) else X) 78 2 = _
      rw [go 78 2 (by decide)]
      exact x2
    · show (if ou < 500 then put X 82 ou.toNat (r d) else X) 80 k = _
      rw [go 80 k (by decide), xo 80 k (by decide)]
      exact r80 k hk
    · show (if ou < 500 then put X 82 ou.toNat (r d) else X) 79 k = _
      rw [go 79 k (by decide), xo 79 k (by decide)]
      exact r79 k
    · show (if ou < 500 then put X 82 ou.toNat (r d) else X) 78 9 = _
      rw [go 78 9 (by decide)]
      exact x9
    · show (if ou < 500 then put X 82 ou.toNat (r d) else X) 82 k = (if ou < 500 then vput sn ou.toNat (r d) else sn) k
      by_cases q : ou < 500
      · rw [if_pos q, if_pos q]
        show (if k = ou.toNat then r d else X 82 k) = if k = ou.toNat then r d else sn k
        rw [xo 82 k (by decide), r82]
      · rw [if_neg q, if_neg q, xo 82 k (by decide)]
        exact r82 k
    · show (if ou < 500 then put X 82 ou.toNat (r d) else X) 78 8 = _
      rw [go 78 8 (by decide)]
      exact x8
    · show (if ou < 500 then put X 82 ou.toNat (r d) else X) 81 k = _
      rw [go 81 k (by decide), xo 81 k (by decide)]
      exact r81 k
end Prc
