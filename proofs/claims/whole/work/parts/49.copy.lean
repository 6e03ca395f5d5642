/-! ROWS: System.arraycopy; the ends of methods -/
def PoolY (nm : String) (own : Nat) (pl : xPl) (args : Array Value) (s : State) : Prop := ∀ k i, pl own k = some (9, i) → (Jvm.Cond.methodLink nm k arraycopyName).before args s = true ∧ (Jvm.Cond.native arraycopyName).before args s = true ∧ (Jvm.Cond.static arraycopyName).before args s = true ∧ (Jvm.Cond.initialized "java/lang/System").before args s = true
section Copy9
variable {p : Program} {l : Launch} {e : Env} {R : Room} {s : State} {m : MethodId} {args : Array Value} {below : List Frame} {meth : Method} {c : Code} {Q : State → Prop}
variable {G : xG} {st : xStt} {H0 : Heap} {hE : xH} {cd : xC} {cc : ByteArray} {pl : xPl} {own pc pc' : Nat} {nm : String} {x : xS} {sa : xL}
theorem W_copy (hexec : p.tables.exec = Jvm.exec) (hb : c.code = cc) {H : Heap} {locs : List Loc} {cells slots : Nat} {ls : Array Slot} {rest : List Value} (hml : c.maxLocals = ls.size) {index : Nat} (hown : s.vm.findClass nm = some m.cls) (hlink : (Jvm.Cond.methodLink nm index arraycopyName).before args s = true) (hnat : (Jvm.Cond.native arraycopyName).before args s = true) (hstat : (Jvm.Cond.static arraycopyName).before args s = true) (hini : (Jvm.Cond.initialized "java/lang/System").before args s = true)
    {b0 a n0 n1 : Nat} {c1 : ClassId} {scr : Cell} {F Gd : Nat → Value} {ty : FieldType} (hc0 : H[b0]? = some scr) (hA0 : s.isArrayOf scr ty) (hkn : scr.vm ≠ .unknown) (hsz : n0 ≤ scr.slots.size) (hF : ∀ j : Nat, j < n0 → scr.slots[j]? = some (F j)) (hc1 : H[a]? = some (arrV c1 n1 Gd)) (hA1 : s.isArrayOf (arrV c1 n1 Gd) ty) (hprim : refKind ty = false)
    {sp dp n : Int32} (h1 : ¬ sp < 0) (h2 : ¬ dp < 0) (h3 : ¬ n < 0) (h4 : sp.toNatClampNeg + n.toNatClampNeg ≤ n0) (h5 : dp.toNatClampNeg + n.toNatClampNeg ≤ n1) (hfit : ∀ i, i < n.toNatClampNeg → fits ty (F (sp.toNatClampNeg + i)) = true ∧ ∀ a, F (sp.toNatClampNeg + i) ≠ .ref a)
    (hframes : 1 ≤ R.frames) (hlocals : (rest.map fun v => v.category).sum + (nativeFrameWords "java/lang/System" "arraycopy" 5 + 11) ≤ R.locals) (hdg : decode cc pc = .ok (.invokestatic index, 3))
    (kk : ∀ (H1 : Heap) (L : List Loc), (∀ q ∈ L, q.base = a) → H1[a]? = some (arrV c1 n1 (va_cpy F Gd sp.toNatClampNeg dp.toNatClampNeg n.toNatClampNeg)) → H1.size = H.size → (∀ q, q ≠ a → H1[q]? = H[q]?) → W p l e R s m args below meth c H1 (locs ++ L) cells slots Q (F0 m (pc + 3) ls rest)) : W p l e R s m args below meth c H locs cells slots Q (F0 m pc ls (.int n :: .int dp :: .ref a :: .int sp :: .ref b0 :: rest)) := by
  have nn : ∀ z : Int32, ¬ z < 0 → z.toInt = (z.toNatClampNeg : Int) := by
    intro z hz
    have hz0 : (0 : Int) ≤ z.toInt := by
      have := Int32.not_lt.mp hz
      simpa using Int32.le_iff_toInt_le.mp this
    show z.toInt = ((z.toInt.toNat : Nat) : Int)
    omega
  intro T hT X
  obtain ⟨hs6, k0, hk0, cm0, hkk0⟩ := hA0
  obtain ⟨hs7, k1, hk1, cm1, hkk1⟩ := hA1
  obtain ⟨vm', X', step⟩ := X.arraycopy hexec hown hlink hnat hstat hini (src := b0) (dst := a) (cs := scr) (cd := arrV c1 n1 Gd) (srcPos := sp) (destPos := dp) (n := n) (by rw [hT]; exact hc0) (by rw [hT]; exact hc1)
    hs6 (fun _ h => by cases h) hkn (fun h => by cases h) hk0 hk1 hkk0 hkk1 (by simp [hprim]) h1 h2 h3
    (by rw [nn sp h1, nn n h3]; omega)
    (by rw [nn dp h2, nn n h3]; show ¬ _ > ((arrV c1 n1 Gd).slots.size : Int); rw [arrV_size]; omega)
    (fun vm₁ _ i hi => by
      have e : scr.slots.getD (sp.toNatClampNeg + i) .null = F (sp.toNatClampNeg + i) := by
        rw [Array.getD_eq_getD_getElem?, hF _ (by omega)]
        rfl
      refine ⟨?_, ?_⟩
      · rw [e]
        exact (hfit i hi).1
      · rw [e]
        have := (hfit i hi).2
        revert this
        cases F (sp.toNatClampNeg + i) with
        | ref a => intro z; exact absurd rfl (z a)
        | _ => intro _; exact trivial)
    (g := F0 m pc ls (.int n :: .int dp :: .ref a :: .int sp :: .ref b0 :: rest)) rfl (by rw [hml]) (rest := rest) rfl (by rw [hb]; exact hdg) hframes (by show 2 * 0 + _ + _ ≤ _; omega)
  have e1 : copied scr (arrV c1 n1 Gd) sp dp n = arrV c1 n1 (va_cpy F Gd sp.toNatClampNeg dp.toNatClampNeg n.toNatClampNeg) := va_copiedX (fun z => z) scr c1 F Gd hF h4
  rw [e1] at X' step
  have hl : a < H.size := (Array.getElem?_eq_some_iff.mp hc1).1
  have hheap : ((T.setVm vm').setCell a (arrV c1 n1 (va_cpy F Gd sp.toNatClampNeg dp.toNatClampNeg n.toNatClampNeg))).heap = H.setIfInBounds a (arrV c1 n1 (va_cpy F Gd sp.toNatClampNeg dp.toNatClampNeg n.toNatClampNeg)) := by rw [← hT]; rfl
  have oq : ∀ q : Nat, q ≠ a → (H.setIfInBounds a (arrV c1 n1 (va_cpy F Gd sp.toNatClampNeg dp.toNatClampNeg n.toNatClampNeg)))[q]? = H[q]? := fun q hq => by simp [Array.getElem?_setIfInBounds, Ne.symm hq]
  obtain ⟨t, a1, b1⟩ := kk _ _ (fun q hq => by obtain ⟨z, -, hz⟩ := List.mem_map.mp hq; rw [← hz]) (by simp [Array.getElem?_setIfInBounds, hl]) (by simp) oq _ hheap X'
  exact ⟨t, step t a1, b1⟩
theorem nfw_le : nativeFrameWords "java/lang/System" "arraycopy" 5 ≤ 30 := by decide +kernel
/-- a copy into a row of one's own, whatever it comes from -/
theorem at_CopyG (hp0 : p.tables.exec = Jvm.exec) (hb : c.code = cc) (hcd : CdOK cd cc) (hown : s.vm.findClass nm = some m.cls) (hK : va_K G.1 pCl (tys4 G) s) (hpy : PoolY nm own pl args s) (hml : x.1.length = c.maxLocals) (hf : 1 ≤ R.frames) (hlo : (sa.map fun a => cat a.1).sum + 41 ≤ R.locals)
    {kd so dst : Nat} {sp dp n : Int} (hkd : kd = 0 ∨ kd = 2) (hd1 : pS ≤ dst) (hd2 : dst < x.2.1) (hd3 : x.2.2.1 dst = kd) (hsp : 0 ≤ sp) (hdp : 0 ≤ dp) (hn : 0 ≤ n) (h5 : dp + n ≤ x.2.2.2.1 dst) (hbyte : kd = 2 → ∀ i, i < n.toNat → -128 ≤ x.2.2.2.2 so (sp.toNat + i) ∧ x.2.2.2.2 so (sp.toNat + i) ≤ 127)
    (hsrc : ∀ (H : Heap) (locs : List Loc), HR G st H0 x.2 H → (∀ q ∈ locs, Own G q.base) → ∃ (n0 : Nat) (scr : Cell) (F : Nat → Value), H[ro G so]? = some scr ∧ s.isArrayOf scr (aft kd) ∧ scr.vm ≠ .unknown ∧ n0 ≤ scr.slots.size ∧ (∀ j : Nat, j < n0 → scr.slots[j]? = some (F j)) ∧ (∀ j, j < n0 → rel (ro G) 0 (x.2.2.2.2 so j) (F j)) ∧ sp + n ≤ n0)
    {k : Nat} {i0 : Int} (hc : cd pc = some (.invokestatic k, 3)) (hpl : pl own k = some (9, i0))
    (hk : At p l e R s m args below meth c Q G st H0 hE cd (pc + 3) (x.1, hrow x.2 dst (fun j => if dp.toNat ≤ j ∧ j < dp.toNat + n.toNat then x.2.2.2.2 so (sp.toNat + (j - dp.toNat)) else x.2.2.2.2 dst j)) sa) : At p l e R s m args below meth c Q G st H0 hE cd pc x ((0, n) :: (0, dp) :: (2, (dst : Int)) :: (0, sp) :: (2, (so : Int)) :: sa) := by
  obtain ⟨y1, y2, y3, y4⟩ := hpy k i0 hpl
  refine At.row hp0 hb hcd hc (fun _ => by intro q; cases q) hk fun H ls locs vs g1 g2 g3 g4 kk => ?_
  obtain ⟨v1, w1, rfl, r1, g4⟩ := SR_cons g4
  obtain ⟨v2, w2, rfl, r2, g4⟩ := SR_cons g4
  obtain ⟨v3, w3, rfl, r3, g4⟩ := SR_cons g4
  obtain ⟨v4, w4, rfl, r4, g4⟩ := SR_cons g4
  obtain ⟨v5, w5, rfl, r5, g5⟩ := SR_cons g4
  have e3 := rel2_nat r3
  have e5 := rel2_nat r5
  subst e3
  subst e5
  obtain ⟨a1, rfl, z1⟩ := r1
  obtain ⟨a2, rfl, z2⟩ := r2
  obtain ⟨a4, rfl, z4⟩ := r4
  replace z1 : n = a1.toInt := z1
  replace z2 : dp = a2.toInt := z2
  replace z4 : sp = a4.toInt := z4
  have hneg : ∀ z : Int32, 0 ≤ z.toInt → ¬ z < 0 := fun z hz hlt => by
    have := Int32.lt_iff_toInt_lt.mp hlt
    have h0 : (0 : Int32).toInt = 0 := rfl
    omega
  obtain ⟨n0, scr, F, t1, t2, t3, t4, t5, t6, t7⟩ := hsrc H locs g1 g3
  have c1 : a1.toNatClampNeg = n.toNat := by rw [z1]; rfl
  have c2 : a2.toNatClampNeg = dp.toNat := by rw [z2]; rfl
  have c4 : a4.toNatClampNeg = sp.toNat := by rw [z4]; rfl
  have hkd4 : kd < 4 := by omega
  rcases g1.2.2.2.1 dst hd1 hd2 with ⟨z, zl, Fd, hFd, hFdr⟩ | ⟨c', q', b1, -⟩
  · rw [hd3] at hFd hFdr
    have hat : aty kd = 0 := by rcases hkd with rfl | rfl <;> rfl
    refine W_copy hp0 hb (by rw [g2.1, hml]) hown y1 y2 y3 y4 t1 t2 t3 t4 t5 hFd (arr_of hK hkd4 _ _) (by rcases hkd with rfl | rfl <;> rfl) (hneg _ (by omega)) (hneg _ (by omega)) (hneg _ (by omega)) (by rw [c1, c4]; omega) (by rw [c1, c2]; omega) (fun i hi => ?_) hf ?_ (hcd _ _ _ hc) fun H1 L hL b1 b2 b3 => ?_
    · rw [c1] at hi
      rw [c4]
      obtain ⟨y, hy, ey⟩ := t6 (sp.toNat + i) (by omega)
      refine ⟨?_, fun a q => by rw [hy] at q; cases q⟩
      rw [hy]
      rcases hkd with rfl | rfl
      · rfl
      · have hbb := hbyte rfl i hi
        rw [ey] at hbb
        have h5 : y.toInt8.toInt32 = y := Int32.toInt_inj.mp (by
          rw [Int8.toInt_toInt32, Int32.toInt_toInt8]
          exact Int.bmod_eq_of_le (by omega) (by omega))
        have h7 := pk_fb y
        rw [h5] at h7
        exact h7
    · rw [SR_sum g5]
      have := nfw_le
      omega
    · rw [c1, c2, c4] at b1
      have hs : hsl (hrow x.2 dst (fun j => if dp.toNat ≤ j ∧ j < dp.toNat + n.toNat then x.2.2.2.2 so (sp.toNat + (j - dp.toNat)) else x.2.2.2.2 dst j)) = hsl x.2 := hsl_same rfl rfl rfl
      have kk2 := kk H1 ls (locs ++ L) w5 (HR_upd g1 hd1 hd2 rfl rfl rfl (fun b hb0 j0 => by simp [hrow, hb0]) b2 b3 (Or.inl ⟨z, zl, va_cpy F Fd sp.toNat dp.toNat n.toNat, by rw [← hd3] at b1; exact b1, fun j hj => ?_⟩)) g2 (fun q0 hq0 => ?_) g5
      · have e2 : (hrow x.2 dst (fun j => if dp.toNat ≤ j ∧ j < dp.toNat + n.toNat then x.2.2.2.2 so (sp.toNat + (j - dp.toNat)) else x.2.2.2.2 dst j)).1 = x.2.1 := rfl
        simp only [e2, hs] at kk2
        exact kk2
      · have e3 : (hrow x.2 dst (fun j => if dp.toNat ≤ j ∧ j < dp.toNat + n.toNat then x.2.2.2.2 so (sp.toNat + (j - dp.toNat)) else x.2.2.2.2 dst j)).2.1 dst = kd := hd3
        rw [e3, hat]
        simp only [hrow, if_true, va_cpy]
        by_cases hj2 : dp.toNat ≤ j ∧ j < dp.toNat + n.toNat
        · rw [if_pos hj2, if_pos hj2]
          exact t6 _ (by omega)
        · rw [if_neg hj2, if_neg hj2]
          have := hFdr j hj
          rw [hat] at this
          exact this
      · rcases List.mem_append.mp hq0 with z | z
        · exact g3 q0 z
        · rw [hL q0 z]
          exact ro_ge hd1
  · omega
theorem at_Copy (hp0 : p.tables.exec = Jvm.exec) (hb : c.code = cc) (hcd : CdOK cd cc) (hown : s.vm.findClass nm = some m.cls) (hK : va_K G.1 pCl (tys4 G) s) (hpy : PoolY nm own pl args s) (hml : x.1.length = c.maxLocals) (hf : 1 ≤ R.frames) (hlo : (sa.map fun a => cat a.1).sum + 41 ≤ R.locals)
    {src sp dst dp n : Int} {h' : xH} (hcp : xcopy pS x.2 src sp dst dp n = some h') {k : Nat} {i0 : Int} (hc : cd pc = some (.invokestatic k, 3)) (hpl : pl own k = some (9, i0))
    (hk : At p l e R s m args below meth c Q G st H0 hE cd (pc + 3) (x.1, h') sa) : At p l e R s m args below meth c Q G st H0 hE cd pc x ((0, n) :: (0, dp) :: (2, dst) :: (0, sp) :: (2, src) :: sa) := by
  unfold xcopy at hcp
  split at hcp
  · rename_i q
    cases hcp
    obtain ⟨q1, q2, q3, q4, q5, q6, q7, q8, q9, q10, q11, q12⟩ := q
    have e1 : src = (src.toNat : Int) := by omega
    have e2 : dst = (dst.toNat : Int) := by omega
    rw [e1, e2]
    refine at_CopyG hp0 hb hcd hown hK hpy hml hf hlo (kd := 0) (Or.inl rfl) (by omega) (by omega) q7 q8 q9 q10 q12 (fun z => by cases z) (fun H locs g1 g3 => ?_) hc hpl hk
    rcases g1.2.2.2.1 src.toNat (by omega) (by omega) with ⟨z, zl, F, hF, hFr⟩ | ⟨c', q', z1, -⟩
    · rw [q3] at hF hFr
      exact ⟨x.2.2.2.1 src.toNat, _, F, hF, arr_of hK (by decide) _ _, (fun z => by cases z), by rw [arrV_size]; exact Nat.le_refl _, fun j hj => arrV_read _ _ hj, hFr, q11⟩
    · omega
  · cases hcp
theorem at_CopyB (hp0 : p.tables.exec = Jvm.exec) (hb : c.code = cc) (hcd : CdOK cd cc) (hown : s.vm.findClass nm = some m.cls) (hK : va_K G.1 pCl (tys4 G) s) (hpy : PoolY nm own pl args s) (hml : x.1.length = c.maxLocals) (hf : 1 ≤ R.frames) (hlo : (sa.map fun a => cat a.1).sum + 41 ≤ R.locals) (hsa : StA G st s) (hsE : HR G st H0 hE s.heap) (hhx : hx hE x.2)
    {src sp dst dp n : Int} {h' : xH} (hcp : xcopyB pS x.2 src sp dst dp n = some h') {k : Nat} {i0 : Int} (hc : cd pc = some (.invokestatic k, 3)) (hpl : pl own k = some (9, i0))
    (hk : At p l e R s m args below meth c Q G st H0 hE cd (pc + 3) (x.1, h') sa) : At p l e R s m args below meth c Q G st H0 hE cd pc x ((0, n) :: (0, dp) :: (2, dst) :: (0, sp) :: (2, src) :: sa) := by
  unfold xcopyB at hcp
  split at hcp
  · rename_i q
    cases hcp
    obtain ⟨q1, q2, q2', q3, q5, q6, q7, q8, q9, q10, q11, q12, q13⟩ := q
    have e1 : src = (src.toNat : Int) := by omega
    have e2 : dst = (dst.toNat : Int) := by omega
    rw [e1, e2]
    have hos : src.toNat < pS := by omega
    refine at_CopyG hp0 hb hcd hown hK hpy hml hf hlo (kd := 2) (Or.inr rfl) (by omega) (by omega) q7 q8 q9 q10 q12 (fun _ => q13) (fun H locs g1 g3 => ?_) hc hpl hk
    obtain ⟨s1, s2, s3⟩ := g1.2.2.2.2 src.toNat hos
    rw [q3] at s1
    obtain ⟨hz, hle, F, ⟨cell, t1, t2, t3, t4, t5, t6, t7⟩, hF⟩ := hsa src.toNat hos (by omega)
    have hS := vaS_of g1 hsE hhx g3
    rw [← s1] at t2
    rw [s2] at q11
    exact ⟨st.2.1 src.toNat, cell, F, by rw [ro_stat hos, hS.2.1 _ (Array.getElem?_eq_some_iff.mp t1).1 t7]; exact t1, t2, t3, t4, t6, fun j hj => by rw [s3]; exact hF j hj, q11⟩
  · cases hcp
end Copy9
