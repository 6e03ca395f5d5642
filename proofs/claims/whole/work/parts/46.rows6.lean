/-! ROWS of arrays, of new cells, of constants that lie in the heap -/
section Rows6
variable {p : Program} {l : Launch} {e : Env} {R : Room} {s : State} {m : MethodId} {args : Array Value} {below : List Frame} {meth : Method} {c : Code} {Q : State → Prop}
variable {G : xG} {st : xStt} {H0 : Heap} {hE : xH} {cd : xC} {cc : ByteArray} {pl : xPl} {own pc pc' : Nat} {nm : String} {x : xS} {sa : xL}
theorem arr_of (hK : va_K G.1 pCl (tys4 G) s) {kd : Nat} (hkd : kd < 4) (n : Nat) (F : Nat → Value) : s.isArrayOf (arrV (G.2.1 kd) n F) (aft kd) := by
  match kd, hkd with
  | 0, _ => exact (hK.2 0 _ rfl).1 n F
  | 1, _ => exact (hK.2 1 _ rfl).1 n F
  | 2, _ => exact (hK.2 2 _ rfl).1 n F
  | 3, _ => exact (hK.2 3 _ rfl).1 n F
theorem in_of {y : Int32} {q n : Nat} (h : y.toInt = (q : Int)) (hq : q < n) : ¬ (y < 0 ∨ n ≤ y.toNatClampNeg) ∧ y.toNatClampNeg = q := by
  have h1 : y.toNatClampNeg = q := by
    show y.toInt.toNat = q
    omega
  refine ⟨fun z => ?_, h1⟩
  rcases z with z | z
  · have := Int32.lt_iff_toInt_lt.mp z
    rw [h] at this
    have h0 : (0 : Int32).toInt = 0 := rfl
    omega
  · omega
/-- an array's place is read -/
theorem W_ald (hp0 : p.tables.exec = Jvm.exec) (hb : c.code = cc) {kd : Nat} (hkd : kd < 4) {H : Heap} {locs : List Loc} {cells slots : Nat} {ls : Array Slot} {rest : List Value} {a : Nat} {cell : Cell} {j : Int32} {v : Value} (hcell : H[a]? = some cell) (harr : s.isArrayOf cell (aft kd)) (hknown : cell.vm ≠ .unknown) (hin : ¬ (j < 0 ∨ cell.slots.size ≤ j.toNatClampNeg)) (hv : cell.slots[j.toNatClampNeg]? = some v)
    (hdg : decode cc pc = .ok (aldI kd, 1)) (kk : W p l e R s m args below meth c H locs cells slots Q (F0 m (pc + 1) ls (v :: rest))) : W p l e R s m args below meth c H locs cells slots Q (F0 m pc ls (.int j :: .ref a :: rest)) := by
  have h4 : kd = 0 ∨ kd = 1 ∨ kd = 2 ∨ kd = 3 := by omega
  rcases h4 with rfl | rfl | rfl | rfl
  · have h1 : decode cc pc = .ok (.iaload, 1) := hdg
    have h2 : s.isArrayOf cell .int := harr
    exact W.iald (g := F0 m pc ls (.int j :: .ref a :: rest)) (rest := rest) hp0 hb hcell h2 hknown hin hv rfl rfl h1 kk
  · have h1 : decode cc pc = .ok (.laload, 1) := hdg
    have h2 : s.isArrayOf cell .long := harr
    exact W.lald (g := F0 m pc ls (.int j :: .ref a :: rest)) (rest := rest) hp0 hb hcell h2 hknown hin hv rfl rfl h1 kk
  · have h1 : decode cc pc = .ok (.baload, 1) := hdg
    have h2 : s.isArrayOf cell .byte := harr
    exact W.bald (g := F0 m pc ls (.int j :: .ref a :: rest)) (rest := rest) hp0 hb hcell h2 hknown hin hv rfl rfl h1 kk
  · have h1 : decode cc pc = .ok (.baload, 1) := hdg
    have h2 : s.isArrayOf cell .boolean := harr
    exact W.zald (g := F0 m pc ls (.int j :: .ref a :: rest)) (rest := rest) hp0 hb hcell h2 hknown hin hv rfl rfl h1 kk
theorem at_Ald (hp0 : p.tables.exec = Jvm.exec) (hb : c.code = cc) (hcd : CdOK cd cc) (hK : va_K G.1 pCl (tys4 G) s) (hsa : StA G st s) (hsE : HR G st H0 hE s.heap) (hhx : hx hE x.2)
    {kd o q : Nat} {a i : Int} (hkd : kd < 4) (ho : xat x.2 kd a i = some (o, q)) (h : ckO cd pc (aldI kd) 1 = some pc') (hk : At p l e R s m args below meth c Q G st H0 hE cd pc' x ((aty kd, x.2.2.2.2 o q) :: sa)) : At p l e R s m args below meth c Q G st H0 hE cd pc x ((0, i) :: (2, a) :: sa) := by
  obtain ⟨hc, rfl⟩ := ckO_e h
  obtain ⟨rfl, ho1, ho2, rfl, ho3⟩ := xat_e ho
  have hng : ∀ o, aldI kd ≠ .goto o := by
    intro o
    unfold aldI
    split <;> (intro q; cases q)
  refine At.row hp0 hb hcd hc hng hk fun H ls locs vs g1 g2 g3 g4 kk => ?_
  obtain ⟨v0, w0, rfl, r0, g4'⟩ := SR_cons g4
  obtain ⟨v1, w1, rfl, r1, g5⟩ := SR_cons g4'
  have e1 := rel2_nat r1
  subst e1
  obtain ⟨y, rfl, ey⟩ := r0
  replace ey : y.toInt = (q : Int) := ey.symm
  obtain ⟨hi1, hi2⟩ := in_of ey ho3
  by_cases hos : o < pS
  · obtain ⟨s1, s2, s3⟩ := g1.2.2.2.2 o hos
    rw [ho2] at s1
    rw [s2] at ho3
    obtain ⟨hz, hle, F, ⟨cell, t1, t2, t3, t4, t5, t6, t7⟩, hF⟩ := hsa o hos (by omega)
    rw [ro_stat hos]
    have hS := vaS_of g1 hsE hhx g3
    rw [← s1] at t2 hz
    have hat : aty kd = 0 := by rcases hz with z | z <;> rw [z] <;> rfl
    refine W_ald hp0 hb hkd (by rw [hS.2.1 _ (Array.getElem?_eq_some_iff.mp t1).1 t7]; exact t1) t2 t3 (fun z => ?_) (by rw [hi2]; exact t6 q ho3) (hcd _ _ _ hc) (kk H ls locs _ g1 g2 g3 ⟨?_, g5⟩)
    · rcases z with z | z
      · exact hi1 (Or.inl z)
      · rw [hi2] at z; omega
    · show rel (ro G) (aty kd) (x.2.2.2.2 o q) (F q)
      rw [hat, s3]
      exact hF q ho3
  · rcases g1.2.2.2.1 o (by omega) ho1 with ⟨z, zl, F, hF, hFr⟩ | ⟨c', q', z1, -⟩
    · rw [ho2] at hF hFr
      refine W_ald hp0 hb hkd hF (arr_of hK hkd _ _) (fun z => by cases z) (by rw [arrV_size]; exact hi1) (by rw [hi2]; exact arrV_read _ _ ho3) (hcd _ _ _ hc) (kk H ls locs _ g1 g2 g3 ⟨hFr q ho3, g5⟩)
    · omega
theorem at_Len (hp0 : p.tables.exec = Jvm.exec) (hb : c.code = cc) (hcd : CdOK cd cc) (hK : va_K G.1 pCl (tys4 G) s) (hsa : StA G st s) (hsE : HR G st H0 hE s.heap) (hhx : hx hE x.2)
    {kd o : Nat} (hkd : kd < 4) (ho1 : o < x.2.1) (ho2 : x.2.2.1 o = kd) (h : ckO cd pc .arraylength 1 = some pc') (hk : At p l e R s m args below meth c Q G st H0 hE cd pc' x ((0, (x.2.2.2.1 o : Int)) :: sa)) : At p l e R s m args below meth c Q G st H0 hE cd pc x ((2, (o : Int)) :: sa) := by
  obtain ⟨hc, rfl⟩ := ckO_e h
  refine At.row hp0 hb hcd hc (fun _ => by intro q; cases q) hk fun H ls locs vs g1 g2 g3 g4 kk => ?_
  obtain ⟨v1, w1, rfl, r1, g5⟩ := SR_cons g4
  have e1 := rel2_nat r1
  subst e1
  by_cases hos : o < pS
  · obtain ⟨s1, s2, s3⟩ := g1.2.2.2.2 o hos
    rw [ho2] at s1
    obtain ⟨hz, hle, F, ⟨cell, t1, t2, t3, t4, t5, t6, t7⟩, hF⟩ := hsa o hos (by omega)
    rw [ro_stat hos]
    have hS := vaS_of g1 hsE hhx g3
    refine W.alen (n := Int32.ofNat (st.2.1 o)) hp0 hb (by rw [hS.2.1 _ (Array.getElem?_eq_some_iff.mp t1).1 t7]; exact t1) t2 t5 rfl rfl (hcd _ _ _ hc) (kk H ls locs _ g1 g2 g3 ⟨⟨_, rfl, ?_⟩, g5⟩)
    show (x.2.2.2.1 o : Int) = (nI (st.2.1 o)).toInt
    rw [s2, nI_toInt (by omega)]
  · rcases g1.2.2.2.1 o (by omega) ho1 with ⟨z, zl, F, hF, hFr⟩ | ⟨c', q', z1, -⟩
    · rw [ho2] at hF
      refine W.alen (n := Int32.ofNat (x.2.2.2.1 o)) hp0 hb hF (arr_of hK hkd _ _) (by rw [arrV_size] <;> rfl) rfl rfl (hcd _ _ _ hc) (kk H ls locs _ g1 g2 g3 ⟨⟨_, rfl, ?_⟩, g5⟩)
      show (x.2.2.2.1 o : Int) = (nI (x.2.2.2.1 o)).toInt
      rw [nI_toInt (by omega)]
    · omega
/-- an array's place is written -/
theorem W_astore (hp0 : p.tables.exec = Jvm.exec) (hb : c.code = cc) {kd : Nat} (hkd : kd < 4) {H : Heap} {locs : List Loc} {cells slots : Nat} {ls : Array Slot} {rest : List Value} {a : Nat} {cell : Cell} {j : Int32} {r : Nat → Nat} {n : Int} {v : Value} (hv : rel r (aty kd) n v) (hcell : H[a]? = some cell) (harr : s.isArrayOf cell (aft kd)) (hknown : cell.vm ≠ .unknown) (hin : ¬ (j < 0 ∨ cell.slots.size ≤ j.toNatClampNeg))
    (hdg : decode cc pc = .ok (astI kd, 1)) (kk : ∀ (H' : Heap) (v' : Value), rel r (aty kd) (xnar kd n) v' → H'[a]? = some (cell.setSlot j.toNatClampNeg v') → H'.size = H.size → (∀ q, q ≠ a → H'[q]? = H[q]?) → W p l e R s m args below meth c H' (locs ++ [⟨a, j.toNatClampNeg⟩]) cells slots Q (F0 m (pc + 1) ls rest)) : W p l e R s m args below meth c H locs cells slots Q (F0 m pc ls (v :: .int j :: .ref a :: rest)) := by
  have h4 : kd = 0 ∨ kd = 1 ∨ kd = 2 ∨ kd = 3 := by omega
  rcases h4 with rfl | rfl | rfl | rfl
  · have g1 : decode cc pc = .ok (.iastore, 1) := hdg
    have g2 : s.isArrayOf cell .int := harr
    obtain ⟨y, rfl, ey⟩ := id hv
    exact W.iast (g := F0 m pc ls (.int y :: .int j :: .ref a :: rest)) (rest := rest) hp0 hb hcell g2 hknown hin rfl rfl g1 fun H' h1 h2 h3 => kk H' _ hv h1 h2 h3
  · have g1 : decode cc pc = .ok (.lastore, 1) := hdg
    have g2 : s.isArrayOf cell .long := harr
    obtain ⟨y, rfl, ey⟩ := id hv
    exact W.last (g := F0 m pc ls (.long y :: .int j :: .ref a :: rest)) (rest := rest) hp0 hb hcell g2 hknown hin rfl rfl g1 fun H' h1 h2 h3 => kk H' _ hv h1 h2 h3
  · have g1 : decode cc pc = .ok (.bastore, 1) := hdg
    have g2 : s.isArrayOf cell .byte := harr
    obtain ⟨y, rfl, ey⟩ := id hv
    have e1 : narrow .byte (.int y) = .int y.toInt8.toInt32 := by
      have := vp_nar_byte y
      simp only [vp_nar, narrow] at this ⊢
    exact W.bast (g := F0 m pc ls (.int y :: .int j :: .ref a :: rest)) (rest := rest) hp0 hb hcell g2 hknown hin rfl rfl g1 fun H' h1 h2 h3 => kk H' (.int y.toInt8.toInt32) ⟨_, rfl, by rw [Int8.toInt_toInt32, Int32.toInt_toInt8, ← ey]; rfl⟩ (by rw [← e1]; exact h1) h2 h3
  · have g1 : decode cc pc = .ok (.bastore, 1) := hdg
    have g2 : s.isArrayOf cell .boolean := harr
    obtain ⟨y, rfl, ey⟩ := id hv
    have e1 : narrow .boolean (.int y) = .int (y &&& 1) := by simp [narrow]
    exact W.zast (g := F0 m pc ls (.int y :: .int j :: .ref a :: rest)) (rest := rest) hp0 hb hcell g2 hknown hin rfl rfl g1 fun H' h1 h2 h3 => kk H' (.int (y &&& 1)) ⟨_, rfl, by
      obtain ⟨j0, h5, h6⟩ := pk_andE y (m := 1) 1 (by decide)
      have h7 := pk_and y (m := 1) 1 (by decide)
      rw [h7, nI_toInt (by omega), ← ey.symm]
      show y.toBitVec.toInt % 2 = _
      rw [BitVec.toInt_eq_toNat_cond]
      split <;> omega⟩ (by rw [← e1]; exact h1) h2 h3
theorem at_Ast (hp0 : p.tables.exec = Jvm.exec) (hb : c.code = cc) (hcd : CdOK cd cc) (hK : va_K G.1 pCl (tys4 G) s)
    {kd o q : Nat} {a i n : Int} (hkd : kd < 4) (ho : xat x.2 kd a i = some (o, q)) (hoS : pS ≤ o) (h : ckO cd pc (astI kd) 1 = some pc') (hk : At p l e R s m args below meth c Q G st H0 hE cd pc' (x.1, hput x.2 o q (xnar kd n)) sa) : At p l e R s m args below meth c Q G st H0 hE cd pc x ((aty kd, n) :: (0, i) :: (2, a) :: sa) := by
  obtain ⟨hc, rfl⟩ := ckO_e h
  obtain ⟨rfl, ho1, ho2, rfl, ho3⟩ := xat_e ho
  have hng : ∀ o, astI kd ≠ .goto o := by
    intro o
    unfold astI
    split <;> (intro q; cases q)
  refine At.row hp0 hb hcd hc hng hk fun H ls locs vs g1 g2 g3 g4 kk => ?_
  obtain ⟨v9, w9, rfl, r9, g4''⟩ := SR_cons g4
  obtain ⟨v0, w0, rfl, r0, g4'⟩ := SR_cons g4''
  obtain ⟨v1, w1, rfl, r1, g5⟩ := SR_cons g4'
  have e1 := rel2_nat r1
  subst e1
  obtain ⟨y, rfl, ey⟩ := r0
  replace ey : y.toInt = (q : Int) := ey.symm
  obtain ⟨hi1, hi2⟩ := in_of ey ho3
  rcases g1.2.2.2.1 o hoS ho1 with ⟨z, zl, F, hF, hFr⟩ | ⟨c', q', z1, -⟩
  · rw [ho2] at hF hFr
    refine W_astore hp0 hb hkd r9 hF (arr_of hK hkd _ _) (fun z => by cases z) (by rw [arrV_size]; exact hi1) (hcd _ _ _ hc) fun H1 v' hv' t1 t2 t3 => ?_
    rw [arrV_store, hi2] at t1
    have hs : hsl (hput x.2 o q (xnar kd n)) = hsl x.2 := hsl_same rfl rfl rfl
    have kk2 := kk H1 ls (locs ++ [⟨ro G o, y.toNatClampNeg⟩]) w1 (HR_upd g1 hoS ho1 rfl rfl rfl (fun b hb0 j0 => by simp [hput, hb0]) t2 t3 (Or.inl ⟨z, zl, updV F q v', by rw [← ho2] at t1; exact t1, fun j hj => ?_⟩)) g2 (fun q0 hq0 => ?_) g5
    · have e2 : (hput x.2 o q (xnar kd n)).1 = x.2.1 := rfl
      simp only [e2, hs] at kk2
      exact kk2
    · have e3 : (hput x.2 o q (xnar kd n)).2.1 o = kd := ho2
      rw [e3]
      by_cases hkk : j = q
      · subst hkk
        simp only [hput, if_true, updV]
        exact hv'
      · simp only [hput, if_true, updV, hkk, if_false]
        exact hFr j hj
    · rcases List.mem_append.mp hq0 with z | z
      · exact g3 q0 z
      · rw [List.mem_singleton.mp z]
        exact ro_ge hoS
  · omega
end Rows6
