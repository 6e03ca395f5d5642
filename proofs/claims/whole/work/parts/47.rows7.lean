/-! ROWS: statics, texts, the stack, new cells -/
def PoolS (G : xG) (nm : String) (own : Nat) (pl : xPl) (args : Array Value) (s : State) : Prop := ∀ k t i, pl own k = some (t, i) → (t = 4 ∨ t = 5) → ∃ (C n d ref : String) (v : Value), va_Z C n d v (Own G) s s.heap ∧ (Jvm.Cond.fieldLink nm k ref n d).before args s = true ∧ (∀ x, s.fieldFound? C n d = some x → s.fieldFound? ref n d = some x) ∧ rel (ro G) (if t = 5 then 2 else 0) i v
def PoolT (G : xG) (nm : String) (own : Nat) (pl : xPl) (s : State) : Prop := ∀ k i, pl own k = some (2, i) → ∃ (a : Nat) (tx : String), i = (a : Int) ∧ a < pS ∧ vk_R nm k tx (G.2.2.1 a) s
def PoolC (nm : String) (own : Nat) (pl : xPl) (args : Array Value) (s : State) : Prop := ∀ k i, pl own k = some (7, i) → ∃ q : vw_C, pCl[i.toNat]? = some q ∧ (Jvm.Cond.classLink nm k q.1).before args s = true ∧ (Jvm.Cond.instantiable q.1 q.2.2).before args s = true ∧ (Jvm.Cond.initialized q.1).before args s = true
def PoolA (args : Array Value) (s : State) : Prop := ∀ kd, kd < 4 → (Jvm.Cond.arrayClass (aft kd)).before args s = true
def PoolO (nm : String) (own : Nat) (pl : xPl) (args : Array Value) (s : State) : Prop := ∀ k i, pl own k = some (8, i) → (Jvm.Cond.methodLink nm k objectInit).before args s = true ∧ (Jvm.Cond.instanceMethod objectInit).before args s = true ∧ (Jvm.Cond.code objectInit ⟨#[0xb1]⟩ 1 none).before args s = true
theorem def_rel {r : Nat → Nat} {ty : FieldType} {t : Nat} (h0 : t ≤ 4) (h1 : fty ty = t) : rel r (rty t) (if t = 2 then -1 else 0) (defaultValue ty) := by
  subst h1
  cases ty with
  | int => exact ⟨0, rfl, rfl⟩
  | long => exact ⟨0, rfl, rfl⟩
  | boolean => exact ⟨0, rfl, rfl⟩
  | byte => exact ⟨0, rfl, rfl⟩
  | object c0 => exact Or.inl ⟨rfl, rfl⟩
  | array t0 => exact Or.inl ⟨rfl, rfl⟩
  | char => exact absurd h0 (by decide)
  | double => exact absurd h0 (by decide)
  | float => exact absurd h0 (by decide)
  | short => exact absurd h0 (by decide)
section Rows7
variable {p : Program} {l : Launch} {e : Env} {R : Room} {s : State} {m : MethodId} {args : Array Value} {below : List Frame} {meth : Method} {c : Code} {Q : State → Prop}
variable {G : xG} {st : xStt} {H0 : Heap} {hE : xH} {cd : xC} {cc : ByteArray} {pl : xPl} {own pc pc' : Nat} {nm : String} {x : xS} {sa : xL}
theorem at_Gs (hp0 : p.tables.exec = Jvm.exec) (hb : c.code = cc) (hcd : CdOK cd cc) (hown : s.vm.findClass nm = some m.cls) (hps : PoolS G nm own pl args s) (hsE : HR G st H0 hE s.heap) (hhx : hx hE x.2) {k t : Nat} {i : Int} (hc : cd pc = some (.getstatic k, 3)) (hpl : pl own k = some (t, i)) (ht : t = 4 ∨ t = 5)
    (hk : At p l e R s m args below meth c Q G st H0 hE cd (pc + 3) x ((if t = 5 then 2 else 0, i) :: sa)) : At p l e R s m args below meth c Q G st H0 hE cd pc x sa := by
  obtain ⟨C, n, d, ref, v, hZ, hl, hsame, hr⟩ := hps k t i hpl ht
  refine At.row hp0 hb hcd hc (fun _ => by intro q; cases q) hk fun H ls locs vs g1 g2 g3 g4 kk => ?_
  exact va_gets hp0 hb hZ (vaS_of g1 hsE hhx g3) hown hl hsame (hcd _ _ _ hc) (kk H ls locs _ g1 g2 g3 ⟨hr, g4⟩)
theorem W_ldcSw (hexec : p.tables.exec = Jvm.exec) (hb : c.code = cc) {H : Heap} {locs : List Loc} {cells slots : Nat} {ls : Array Slot} {rest : List Value} {tx : String} {index q : Nat} (hown : s.vm.findClass nm = some m.cls) (hZ : vk_R nm index tx q s) (hdg : decode cc pc = .ok (.ldc_w index, 3))
    (k : W p l e R s m args below meth c H locs cells slots Q (F0 m (pc + 3) ls (.ref q :: rest))) : W p l e R s m args below meth c H locs cells slots Q (F0 m pc ls rest) := by
  intro T hT X
  obtain ⟨t, a1, b1⟩ := k T hT X
  exact ⟨t, X.ldcStringW hexec hown (text := tx) (a := q) hZ.1 hZ.2 (g := F0 m pc ls rest) rfl (by rw [hb]; exact hdg) t a1, b1⟩
theorem at_Str (hp0 : p.tables.exec = Jvm.exec) (hb : c.code = cc) (hcd : CdOK cd cc) (hown : s.vm.findClass nm = some m.cls) (hpt : PoolT G nm own pl s) {k n : Nat} {i : Int} (hc : cd pc = some (.ldc k, 2) ∧ n = 2 ∨ cd pc = some (.ldc_w k, 3) ∧ n = 3) (hpl : pl own k = some (2, i))
    (hk : At p l e R s m args below meth c Q G st H0 hE cd (pc + n) x ((2, i) :: sa)) : At p l e R s m args below meth c Q G st H0 hE cd pc x sa := by
  obtain ⟨a, tx, rfl, ha, hZ⟩ := hpt k i hpl
  rcases hc with ⟨hc, rfl⟩ | ⟨hc, rfl⟩
  · refine At.row hp0 hb hcd hc (fun _ => by intro q; cases q) hk fun H ls locs vs g1 g2 g3 g4 kk => ?_
    exact va_ldcS hp0 hb hown hZ (hcd _ _ _ hc) (kk H ls locs _ g1 g2 g3 ⟨Or.inr (Or.inr ⟨a, rfl, by rw [ro_stat ha]⟩), g4⟩)
  · refine At.row hp0 hb hcd hc (fun _ => by intro q; cases q) hk fun H ls locs vs g1 g2 g3 g4 kk => ?_
    exact W_ldcSw hp0 hb hown hZ (hcd _ _ _ hc) (kk H ls locs _ g1 g2 g3 ⟨Or.inr (Or.inr ⟨a, rfl, by rw [ro_stat ha]⟩), g4⟩)
theorem at_Dup (hp0 : p.tables.exec = Jvm.exec) (hb : c.code = cc) (hcd : CdOK cd cc) {t : Nat} {n : Int} (ht : t = 0 ∨ t = 2) (h : ckO cd pc .dup 1 = some pc') (hk : At p l e R s m args below meth c Q G st H0 hE cd pc' x ((t, n) :: (t, n) :: sa)) : At p l e R s m args below meth c Q G st H0 hE cd pc x ((t, n) :: sa) := by
  obtain ⟨hc, rfl⟩ := ckO_e h
  refine At.row hp0 hb hcd hc (fun _ => by intro q; cases q) hk fun H ls locs vs g1 g2 g3 g4 kk => ?_
  obtain ⟨v0, w0, rfl, r0, g5⟩ := SR_cons g4
  exact lv_dup hp0 hb (hcd _ _ _ hc) (by rw [rel_cat r0]; rcases ht with rfl | rfl <;> rfl) (kk H ls locs _ g1 g2 g3 ⟨r0, r0, g5⟩)
theorem at_Dup2 (hp0 : p.tables.exec = Jvm.exec) (hb : c.code = cc) (hcd : CdOK cd cc) {n a : Int} (h : ckO cd pc .dup2 1 = some pc') (hk : At p l e R s m args below meth c Q G st H0 hE cd pc' x ((0, n) :: (2, a) :: (0, n) :: (2, a) :: sa)) : At p l e R s m args below meth c Q G st H0 hE cd pc x ((0, n) :: (2, a) :: sa) := by
  obtain ⟨hc, rfl⟩ := ckO_e h
  refine At.row hp0 hb hcd hc (fun _ => by intro q; cases q) hk fun H ls locs vs g1 g2 g3 g4 kk => ?_
  obtain ⟨v0, w0, rfl, r0, g5⟩ := SR_cons g4
  obtain ⟨v1, w1, rfl, r1, g6⟩ := SR_cons g5
  exact lv_dup2_11 hp0 hb (hcd _ _ _ hc) (rel_cat r0) (rel_cat r1) (kk H ls locs _ g1 g2 g3 ⟨r0, r1, r0, r1, g6⟩)
theorem at_Pop (hp0 : p.tables.exec = Jvm.exec) (hb : c.code = cc) (hcd : CdOK cd cc) {t : Nat} {n : Int} (ht : t = 0 ∨ t = 2) (h : ckO cd pc .pop 1 = some pc') (hk : At p l e R s m args below meth c Q G st H0 hE cd pc' x sa) : At p l e R s m args below meth c Q G st H0 hE cd pc x ((t, n) :: sa) := by
  obtain ⟨hc, rfl⟩ := ckO_e h
  refine At.row hp0 hb hcd hc (fun _ => by intro q; cases q) hk fun H ls locs vs g1 g2 g3 g4 kk => ?_
  obtain ⟨v0, w0, rfl, r0, g5⟩ := SR_cons g4
  exact lv_pop hp0 hb (hcd _ _ _ hc) (by rw [rel_cat r0]; rcases ht with rfl | rfl <;> rfl) (kk H ls locs _ g1 g2 g3 g5)
theorem at_New (hp0 : p.tables.exec = Jvm.exec) (hb : c.code = cc) (hcd : CdOK cd cc) (hown : s.vm.findClass nm = some m.cls) (hts : ∀ w ∈ gw, w.before args s = true) (hK : va_K G.1 pCl (tys4 G) s) (hpc : PoolC nm own pl args s) (hhx : hx hE x.2) (hES : pS ≤ hE.1)
    {k ci : Nat} (hc : cd pc = some (.new k, 3)) (hpl : pl own k = some (7, (ci : Int))) (hcells : x.2.1 + 1 - hE.1 ≤ R.cells) (hslots : hsl (hnew pft x.2 (10 + ci) 0) - hsl hE ≤ R.slots)
    (hk : At p l e R s m args below meth c Q G st H0 hE cd (pc + 3) (x.1, hnew pft x.2 (10 + ci) 0) ((2, (x.2.1 : Int)) :: sa)) : At p l e R s m args below meth c Q G st H0 hE cd pc x sa := by
  obtain ⟨q, hq, hl1, hl2, hl3⟩ := hpc k _ hpl
  simp only [Int.toNat_natCast] at hq
  obtain ⟨hin, hty, hnm, hft, hfn, hdec⟩ := pCl_ok _ _ hq
  have hKn := hK.1 ci _ hq
  have hsz : csz (hnew pft x.2 (10 + ci) 0) x.2.1 = q.2.2 := by
    have e1 : (hnew pft x.2 (10 + ci) 0).2.1 x.2.1 = 10 + ci := by simp [hnew]
    unfold csz
    rw [e1, if_neg (by omega), show 10 + ci - 10 = ci by omega, hq]
    rfl
  have hge : hsl hE ≤ hsl x.2 := hsl_le hES hhx
  have hh1 := hhx.1
  have hnw := hsl_new pft x.2 (10 + ci) 0 (by omega)
  rw [hsz] at hnw
  refine At.row hp0 hb hcd hc (fun _ => by intro q; cases q) hk fun H ls locs vs g1 g2 g3 g4 kk => ?_
  refine W.newcK hp0 hb hown hl1 hl2 hl3 rfl (hcd _ _ _ hc) (by omega) (by omega) hKn.2.1 rfl fun H1 kC hkC e1 z1 o1 => ?_
  have hro : ro G x.2.1 = H.size := by rw [ro_own (by omega), g1.2.1]
  have kk2 := kk H1 ls locs (.ref H.size :: vs) (HR_new g1 rfl (fun a ha => by simp [hnew, ha]) (fun a ha => by simp [hnew, ha]) (fun a ha j => by simp [hnew, ha]) z1 o1 (Or.inr ⟨ci, q, by simp [hnew], hq, fun k1 => defaultValue (tyC ci k1), by rw [hro]; exact u_born (tyC ci) hts hin hKn hkC e1 hty, fun k1 hk1 => ?_⟩)) g2 g3 ⟨Or.inr (Or.inr ⟨x.2.1, rfl, by rw [hro]⟩), g4⟩
  · have a1 : (hnew pft x.2 (10 + ci) 0).1 - hE.1 = x.2.1 - hE.1 + 1 := by
      show x.2.1 + 1 - hE.1 = _
      omega
    have a2 : hsl (hnew pft x.2 (10 + ci) 0) - hsl hE = hsl x.2 - hsl hE + q.2.2 := by omega
    simp only [a1, a2] at kk2
    exact kk2
  · have := def_rel (r := ro G) (pft_le ci k1) (hft k1 hk1)
    have e2 : (hnew pft x.2 (10 + ci) 0).2.2.2 x.2.1 k1 = (if pft ci k1 = 2 then -1 else 0) := by
      simp [hnew]
    rw [e2]
    exact this
theorem at_NewA (hp0 : p.tables.exec = Jvm.exec) (hb : c.code = cc) (hcd : CdOK cd cc) (hK : va_K G.1 pCl (tys4 G) s) (hpa : PoolA args s) (hhx : hx hE x.2) (hES : pS ≤ hE.1)
    {kd : Nat} {n : Int} (hkd : kd < 4) (hn : 0 ≤ n ∧ n ≤ 100000) (h : ckO cd pc (newI kd) 2 = some pc') (hcells : x.2.1 + 1 - hE.1 ≤ R.cells) (hslots : hsl (hnew pft x.2 kd n.toNat) - hsl hE ≤ R.slots)
    (hk : At p l e R s m args below meth c Q G st H0 hE cd pc' (x.1, hnew pft x.2 kd n.toNat) ((2, (x.2.1 : Int)) :: sa)) : At p l e R s m args below meth c Q G st H0 hE cd pc x ((0, n) :: sa) := by
  obtain ⟨hc, rfl⟩ := ckO_e h
  have hng : ∀ o, newI kd ≠ .goto o := by
    intro o
    unfold newI
    split <;> (intro q; cases q)
  have hsz : csz (hnew pft x.2 kd n.toNat) x.2.1 = n.toNat := by
    have e1 : (hnew pft x.2 kd n.toNat).2.1 x.2.1 = kd := by simp [hnew]
    unfold csz
    rw [e1, if_pos hkd]
    simp [hnew]
  have hge : hsl hE ≤ hsl x.2 := hsl_le hES hhx
  have hh1 := hhx.1
  have hnw := hsl_new pft x.2 kd n.toNat (by omega)
  rw [hsz] at hnw
  refine At.row hp0 hb hcd hc hng hk fun H ls locs vs g1 g2 g3 g4 kk => ?_
  obtain ⟨v0, w0, rfl, r0, g5⟩ := SR_cons g4
  obtain ⟨y, rfl, ey⟩ := r0
  replace ey : n = y.toInt := ey
  have hro : ro G x.2.1 = H.size := by rw [ro_own (by omega), g1.2.1]
  have key : ∀ (at_ : ArrayType), newI kd = .newarray at_ → newarray.typeOf at_ = aft kd → W p l e R s m args below meth c H locs (x.2.1 - hE.1) (hsl x.2 - hsl hE) Q (F0 m pc ls (.int y :: w0)) := by
    intro at_ hi hty
    have hd := hcd _ _ _ hc
    rw [hi] at hd
    refine va_newaK hp0 hb (by rw [hty]; exact hpa kd hkd) (g := F0 m pc ls (.int y :: w0)) rfl hd (rest := w0) rfl (fun z => ?_) (N := n.toNat) (by show y.toInt.toNat = _; omega) ?_ (by omega) (by omega) rfl fun H1 cA e1 z1 o1 hAr hNm => ?_
    · have := Int32.lt_iff_toInt_lt.mp z
      have h0 : (0 : Int32).toInt = 0 := rfl
      omega
    · rw [hty]
      have h4 : kd = 0 ∨ kd = 1 ∨ kd = 2 ∨ kd = 3 := by omega
      rcases h4 with rfl | rfl | rfl | rfl <;> simp only [aft, componentBytes] <;> omega
    · have hcA : cA = G.2.1 kd := by
        rw [hty] at hNm
        have h4 : kd = 0 ∨ kd = 1 ∨ kd = 2 ∨ kd = 3 := by omega
        rcases h4 with rfl | rfl | rfl | rfl
        · exact Option.some.inj (hNm.symm.trans (hK.2 0 _ rfl).2)
        · exact Option.some.inj (hNm.symm.trans (hK.2 1 _ rfl).2)
        · exact Option.some.inj (hNm.symm.trans (hK.2 2 _ rfl).2)
        · exact Option.some.inj (hNm.symm.trans (hK.2 3 _ rfl).2)
      subst hcA
      have k1 : (hnew pft x.2 kd n.toNat).2.1 x.2.1 = kd := by simp [hnew]
      have k2 : (hnew pft x.2 kd n.toNat).2.2.1 x.2.1 = n.toNat := by simp [hnew]
      have kk2 := kk H1 ls locs (.ref H.size :: w0) (HR_new g1 rfl (fun a ha => by simp [hnew, ha]) (fun a ha => by simp [hnew, ha]) (fun a ha j => by simp [hnew, ha]) z1 o1 (Or.inl ⟨by rw [k1]; exact hkd, by rw [k2]; omega, (fun _ => defaultValue (newarray.typeOf at_)), by rw [hro, k1, k2]; exact e1, fun j hj => ?_⟩)) g2 g3 ⟨Or.inr (Or.inr ⟨x.2.1, rfl, by rw [hro]⟩), g5⟩
      · have a1 : (hnew pft x.2 kd n.toNat).1 - hE.1 = x.2.1 - hE.1 + 1 := by
          show x.2.1 + 1 - hE.1 = _
          omega
        have a2 : hsl (hnew pft x.2 kd n.toNat) - hsl hE = hsl x.2 - hsl hE + n.toNat := by omega
        simp only [a1, a2] at kk2
        exact kk2
      · have e2 : (hnew pft x.2 kd n.toNat).2.2.2 x.2.1 j = 0 := by
          simp only [hnew, if_true]
          rw [if_neg (by omega)]
        rw [k1, e2, hty]
        have h4 : kd = 0 ∨ kd = 1 ∨ kd = 2 ∨ kd = 3 := by omega
        rcases h4 with rfl | rfl | rfl | rfl <;> exact ⟨0, rfl, rfl⟩
  have h4 : kd = 0 ∨ kd = 1 ∨ kd = 2 ∨ kd = 3 := by omega
  rcases h4 with rfl | rfl | rfl | rfl
  · exact key .int rfl rfl
  · exact key .long rfl rfl
  · exact key .byte rfl rfl
  · exact key .boolean rfl rfl
theorem at_Obj (hp0 : p.tables.exec = Jvm.exec) (hb : c.code = cc) (hcd : CdOK cd cc) (hown : s.vm.findClass nm = some m.cls) (hpo : PoolO nm own pl args s) (hml : x.1.length = c.maxLocals) (hf : 1 ≤ R.frames) (hlo : (sa.map fun a => cat a.1).sum + 12 ≤ R.locals) {k : Nat} {i n : Int} (hc : cd pc = some (.invokespecial k, 3)) (hpl : pl own k = some (8, i)) (hn : ∃ o : Nat, n = (o : Int))
    (hk : At p l e R s m args below meth c Q G st H0 hE cd (pc + 3) x sa) : At p l e R s m args below meth c Q G st H0 hE cd pc x ((2, n) :: sa) := by
  obtain ⟨h1, h2, h3⟩ := hpo k i hpl
  obtain ⟨o, rfl⟩ := hn
  refine At.row hp0 hb hcd hc (fun _ => by intro q; cases q) hk fun H ls locs vs g1 g2 g3 g4 kk => ?_
  obtain ⟨v0, w0, rfl, r0, g5⟩ := SR_cons g4
  have e1 := rel2_nat r0
  subst e1
  refine W.objInit hp0 hb hown h1 h2 h3 (g := F0 m pc ls (.ref (ro G o) :: w0)) rfl (by show ls.size = _; rw [g2.1, hml]) rfl (hcd _ _ _ hc) hf ?_ (kk H ls locs w0 g1 g2 g3 g5)
  rw [SR_sum g5]
  show 2 * 0 + _ + 12 ≤ _
  omega
end Rows7
