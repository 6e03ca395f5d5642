/-! CALLS: the world that every method finds, a method's contract, a call's row -/
def StZ (G : xG) (U : State) : Prop := ∀ z ∈ szL, ∃ v, va_Z z.1 z.2.1 z.2.2.1 v (Own G) U U.heap ∧ rel (ro G) z.2.2.2.1 z.2.2.2.2 v
def StT (G : xG) (U : State) : Prop := ∀ own nm, cnm[own]? = some nm → PoolT G nm own ppl U
def StN (U : State) : Prop := ∀ z ∈ ntL, va_Nw (.methodLinkNest z.1 z.2.1 z.2.2.1 z.2.2.2) U
def WS (G : xG) (st : xStt) (U : State) : Prop := va_K G.1 pCl (tys4 G) U ∧ StO G st U ∧ StA G st U ∧ StZ G U ∧ StT G U ∧ StN U
theorem WS_moved {G : xG} {st : xStt} {s U : State} (h : WS G st s) (hW : s.WarmedH U.vm) (hk : ∀ a : Nat, a < s.heap.size → ¬ Own G a → U.heap[a]? = s.heap[a]?) : WS G st U := by
  obtain ⟨h1, h2, h3, h4, h5, h6⟩ := h
  refine ⟨va_K.moved hW.alike h1, fun i hi hs => ⟨va_O.moved hW.alike ((h2 i hi hs).1.kept hk), fun k hk2 => ?_⟩, fun i hi hs => ?_, fun z hz => ?_, fun own nm ho k i hp => ?_, fun z hz => (h6 z hz).warmM hW⟩
  · obtain ⟨v, a, b⟩ := (h2 i hi hs).2 k hk2
    exact ⟨v, va_OF.moved hW.alike (a.kept hk), b⟩
  · obtain ⟨a, b, F, c, d⟩ := h3 i hi hs
    exact ⟨a, b, F, va_T.moved hW.alike (c.kept hk), d⟩
  · obtain ⟨v, a, b⟩ := h4 z hz
    exact ⟨v, va_Z.moved hW.alike (a.kept hk), b⟩
  · obtain ⟨a, tx, b, c, d⟩ := h5 own nm ho k i hp
    exact ⟨a, tx, b, c, d.warm hW⟩
theorem WS_same {G : xG} {st : xStt} {s U : State} (h : WS G st s) (hv : U.vm = s.vm) (hh : U.heap = s.heap) : WS G st U := by
  obtain ⟨h1, h2, h3, h4, h5, h6⟩ := h
  have hal : s.vm.Alike U.vm := by rw [hv]; exact Vm.Alike.refl _
  refine ⟨va_K.moved hal h1, fun i hi hs => ⟨by rw [hh]; exact va_O.moved hal (h2 i hi hs).1, fun k hk2 => ?_⟩, fun i hi hs => ?_, fun z hz => ?_, fun own nm ho k i hp => ?_, fun z hz => (h6 z hz).same rfl hv.symm⟩
  · obtain ⟨v, a, b⟩ := (h2 i hi hs).2 k hk2
    exact ⟨v, by rw [hh]; exact va_OF.moved hal a, b⟩
  · obtain ⟨a, b, F, c, d⟩ := h3 i hi hs
    exact ⟨a, b, F, by rw [hh]; exact va_T.moved hal c, d⟩
  · obtain ⟨v, a, b⟩ := h4 z hz
    exact ⟨v, by rw [hh]; exact va_Z.moved hal a, b⟩
  · obtain ⟨a, tx, b, c, d⟩ := h5 own nm ho k i hp
    exact ⟨a, tx, b, c, d.same hv⟩
def QcM (G : xG) (st : xStt) (H0 : Heap) (rt : Nat) (r : List Int) (h' : xH) : Array Value → State → Outcome → State → Prop := fun _ _ o t =>
  ((r = [] ∧ o = .returned none) ∨ ∃ n v, r = [n] ∧ o = .returned (some v) ∧ rel (ro G) (rty rt) n v) ∧ HR G st H0 h' t.heap
def PcM (G : xG) (st : xStt) (H0 : Heap) (avs : List Value) (h : xH) : Array Value → State → Prop := fun a U => a = avs.toArray ∧ WS G st U ∧ HR G st H0 h U.heap
/-- the contract of a method, at arguments, a state, and what the pure machine makes of them -/
def MetM (l : Launch) (G : xG) (st : xStt) (H0 : Heap) (d mi : Nat) (vs : List Int) (h : xH) (r : List Int) (h' : xH) : Prop :=
  ∀ y b n ret kind ts rt, yL[mi]? = some y → bL[mi]? = some (b, n, ret) → pmk mi = some (kind, ts, rt) → ∀ avs : List Value, SRv (ro G) (ts.zip vs) avs →
    Met l y (Jvm.Cond.code y b n ret :: gw) { frames := d, cells := h'.1 - h.1, slots := hsl h' - hsl h, locals := 100 * d } (PcM G st H0 avs h) (QcM G st H0 rt r h') (h'.1 - h.1) (hsl h' - hsl h) (Own G)
theorem PcM_blind {G : xG} {st : xStt} {H0 : Heap} {avs : List Value} {h : xH} : FrameBlind (PcM G st H0 avs h) := fun a U g mk q => ⟨q.1, WS_same q.2.1 rfl rfl, q.2.2⟩
theorem SR_app {r : Nat → Nat} : ∀ {A B : xL} {vs : List Value}, SRv r (A ++ B) vs → ∃ u w, vs = u ++ w ∧ SRv r A u ∧ SRv r B w
  | [], B, vs, h => ⟨[], vs, rfl, trivial, h⟩
  | a :: A, B, vs, h => by
    obtain ⟨v, w, rfl, h1, h2⟩ := SR_cons h
    obtain ⟨u, w', rfl, h3, h4⟩ := SR_app h2
    exact ⟨v :: u, w', rfl, ⟨h1, h3⟩, h4⟩
theorem SR_join {r : Nat → Nat} : ∀ {A B : xL} {u w : List Value}, SRv r A u → SRv r B w → SRv r (A ++ B) (u ++ w)
  | [], B, [], w, _, h => h
  | a :: A, B, v :: u, w, h1, h2 => ⟨h1.1, SR_join h1.2 h2⟩
theorem SR_rev {r : Nat → Nat} : ∀ {A : xL} {u : List Value}, SRv r A u → SRv r A.reverse u.reverse
  | [], [], _ => trivial
  | a :: A, v :: u, h => by
    rw [List.reverse_cons, List.reverse_cons]
    exact SR_join (SR_rev h.2) ⟨h.1, trivial⟩
theorem SR_len {r : Nat → Nat} : ∀ {A : xL} {u : List Value}, SRv r A u → u.length = A.length
  | [], [], _ => rfl
  | a :: A, v :: u, h => by simp [SR_len h.2]
/-- what a call's entry in the pool stands on -/
def PoolM (nm : String) (own : Nat) (pl : xPl) (args : Array Value) (s : State) : Prop := ∀ (k mi : Nat), pl own k = some (6, (mi : Int)) → ∃ y b n ret kind ts rt, yL[mi]? = some y ∧ bL[mi]? = some (b, n, ret) ∧ pmk mi = some (kind, ts, rt) ∧ Jvm.Cond.code y b n ret ∈ gw ∧ (Jvm.Cond.initialized y.cls).before args s = true ∧ (y.cls ≠ "java/lang/invoke/MethodHandle" ∧ y.cls ≠ "java/lang/invoke/VarHandle") ∧ n ≤ 40 ∧
  ((kind = 0 ∧ (Jvm.Cond.methodLink nm k y).before args s = true ∧ (Jvm.Cond.static y).before args s = true ∧ ∀ sig, parseMethodDescriptor y.desc = some sig → ts.length = sig.parameters.length) ∨
   (kind = 1 ∧ (Jvm.Cond.methodLink nm k y).before args s = true ∧ (Jvm.Cond.instanceMethod y).before args s = true ∧ (Jvm.Cond.selects y.cls y y).before args s = true ∧ (∃ ts', ts = 2 :: ts') ∧ ∀ sig, parseMethodDescriptor y.desc = some sig → ts.length = sig.parameters.length + 1) ∨
   (kind = 2 ∧ y.name = "<init>" ∧ ret = none ∧ rt = 9 ∧ (Jvm.Cond.instanceMethod y).before args s = true ∧ ((Jvm.Cond.methodLink nm k y).before args s = true ∨ ∃ host, (Jvm.Cond.methodLinkNest nm k y host).before args s = true) ∧ (∃ ts', ts = 2 :: ts') ∧ ∀ sig, parseMethodDescriptor y.desc = some sig → ts.length = sig.parameters.length + 1))
section Calls8
variable {p : Program} {l : Launch} {e : Env} {R : Room} {s : State} {m : MethodId} {args : Array Value} {below : List Frame} {meth : Method} {c : Code} {Q : State → Prop}
variable {G : xG} {st : xStt} {H0 : Heap} {hE : xH} {cd : xC} {cc : ByteArray} {pl : xPl} {own pc pc' : Nat} {nm : String} {x : xS} {sa : xL}
theorem ckV_e {kind mi : Nat} (h : ckV cd pl own pc kind mi = some pc') : pc' = pc + 3 ∧ ∃ k, pl own k = some (6, (mi : Int)) ∧ ((kind = 0 ∧ cd pc = some (.invokestatic k, 3)) ∨ (kind = 1 ∧ cd pc = some (.invokevirtual k, 3)) ∨ (kind = 2 ∧ cd pc = some (.invokespecial k, 3))) := by
  unfold ckV at h
  split at h
  · rename_i k heq
    split at h
    · rename_i hv
      cases h
      exact ⟨rfl, k, hv.2, Or.inl ⟨hv.1, heq⟩⟩
    · cases h
  · rename_i k heq
    split at h
    · rename_i hv
      cases h
      exact ⟨rfl, k, hv.2, Or.inr (Or.inl ⟨hv.1, heq⟩)⟩
    · cases h
  · rename_i k heq
    split at h
    · rename_i hv
      cases h
      exact ⟨rfl, k, hv.2, Or.inr (Or.inr ⟨hv.1, heq⟩)⟩
    · cases h
  · cases h
/-- the receiver is there -/
theorem recv_ok (hK : va_K G.1 pCl (tys4 G) s) (hso : StO G st s) (hsk : StK st) (hsE : HR G st H0 hE s.heap) {h : xH} {H : Heap} (hR : HR G st H0 h H) (hhx : hx hE h) {ci o : Nat} {a : Int} {q : vw_C} (hq : pCl[ci]? = some q) (ho : xob h ci a = some o) : ∃ cellB : Cell, H[ro G o]? = some cellB ∧ cellB.vm.isStatics = false ∧ s.vm.findClass q.1 = some cellB.cls := by
  obtain ⟨rfl, ho1, ho2⟩ := xob_e ho
  by_cases hos : o < pS
  · obtain ⟨s1, s2, s3⟩ := hR.2.2.2.2 o hos
    rw [ho2] at s1
    have hc0 : ci = 0 := by
      rcases hsk o hos with z | z <;> omega
    subst hc0
    cases hq
    obtain ⟨cell, t1, t2, t3, t4⟩ := (hso o hos (by omega)).1
    have hS := vaS_of (locs := []) hR hsE hhx (fun q h => by cases h)
    exact ⟨cell, by rw [ro_stat hos, hS.2.1 _ (Array.getElem?_eq_some_iff.mp t1).1 t4]; exact t1, t2, t3⟩
  · rcases hR.2.2.2.1 o (by omega) ho1 with ⟨z, -⟩ | ⟨c', q', z1, z2, V, ⟨cell, t1, t2, t3, -⟩, hV⟩
    · omega
    · have hcc : c' = ci := by omega
      subst hcc
      cases hq.symm.trans z2
      exact ⟨cell, t1, by rw [t3]; rfl, by rw [t2]; exact (hK.1 _ _ hq).2.1⟩
theorem at_Call (hp0 : p.tables.exec = Jvm.exec) (hb : c.code = cc) (hcd : CdOK cd cc) (hown : s.vm.findClass nm = some m.cls) (hts : ∀ w ∈ gw, w.before args s = true) (hw : WS G st s) (hsk : StK st) (hpm : PoolM nm own pl args s) (hsE : HR G st H0 hE s.heap) (hhx : hx hE x.2) (hES : pS ≤ hE.1) (hml : x.1.length = c.maxLocals)
    {d mi kind rt : Nat} {ts : List Nat} {vs r : List Int} {h' : xH} (hmk : pmk mi = some (kind, ts, rt)) (hlen : vs.length = ts.length) (hM : MetM l G st H0 d mi vs x.2 r h') (hx' : hx x.2 h') (hrc : kind = 1 → ∀ y, yL[mi]? = some y → ∃ ci q, pCl[ci]? = some q ∧ q.1 = y.cls ∧ ∃ a vs', vs = a :: vs' ∧ (xob x.2 ci a).isSome = true) (hrn : kind = 2 → ∃ (o : Nat) (vs' : List Int), vs = (o : Int) :: vs')
    (hfr : d + 1 ≤ R.frames) (hlo : 83 + 100 * d ≤ R.locals) (hdep : (sa.map fun a => cat a.1).sum ≤ 32) (hcells : h'.1 - hE.1 ≤ R.cells) (hslots : hsl h' - hsl hE ≤ R.slots)
    (h : ckV cd pl own pc kind mi = some pc') (hk : At p l e R s m args below meth c Q G st H0 hE cd pc' (x.1, h') (r.map (fun n => (rty rt, n)) ++ sa)) : At p l e R s m args below meth c Q G st H0 hE cd pc x ((ts.zip vs).reverse ++ sa) := by
  obtain ⟨rfl, k, hpl, hins⟩ := ckV_e h
  obtain ⟨y, b, n, ret, kind', ts', rt', hy, hbl, hmk', hcw, hini, hnmh, hn40, hcase⟩ := hpm k mi hpl
  cases hmk.symm.trans hmk'
  have hge : hsl hE ≤ hsl x.2 := hsl_le hES hhx
  have hge2 : hsl x.2 ≤ hsl h' := hsl_le (Nat.le_trans hES hhx.1) hx'
  have hg1 := hhx.1
  have hg2 := hx'.1
  have hcodeb := hts _ hcw
  -- what comes back
  have fin : ∀ (H : Heap) (ls : Array Slot) (locs : List Loc) (rest u : List Value), HR G st H0 x.2 H → LR (ro G) x.1 ls → (∀ q ∈ locs, Own G q.base) → SRv (ro G) sa rest →
      (∀ (H' : Heap) (ls' : Array Slot) (locs' : List Loc) (vs' : List Value), HR G st H0 h' H' → LR (ro G) x.1 ls' → (∀ q ∈ locs', Own G q.base) → SRv (ro G) (r.map (fun n => (rty rt, n)) ++ sa) vs' → W p l e R s m args below meth c H' locs' (h'.1 - hE.1) (hsl h' - hsl hE) Q (F0 m (pc + 3) ls' vs')) →
      (∀ T : State, T.heap = H → Stand p l e R s m args below meth c T locs (x.2.1 - hE.1) (hsl x.2 - hsl hE) → ∀ (rb : List Value) (hM2 : Back l R p e below s args y 3 32 (PreOf R (h'.1 - x.2.1) (hsl h' - hsl x.2) (PcM G st H0 rb x.2)) (PostOf (QcM G st H0 rt r h') (h'.1 - x.2.1) (hsl h' - hsl x.2) (Own G))) , ∀ (v : Option Value) (vm₁ : Vm) (B : Jvm.Free.Pt), Stand p l e R s m args below meth c B.U B.locs B.cells B.slots → PostOf (QcM G st H0 rt r h') (h'.1 - x.2.1) (hsl h' - hsl x.2) (Own G) ⟨T.setVm vm₁, locs, x.2.1 - hE.1, hsl x.2 - hsl hE⟩ rb.toArray v B → (∀ target, Steps p.tables e below (B.U.setTop (F0 m (pc + 3) ls (v.toList ++ rest))) target → Steps p.tables e below (T.setTop (F0 m pc ls u)) target) → ∃ t, Steps p.tables e below (T.setTop (F0 m pc ls u)) t ∧ Q t) := by
    intro H ls locs rest u g1 g2 g3 g5 kk T hT X rb hM2 v vm₁ B X' hpost hst
    obtain ⟨g', mk, t, L, e1, e2, hq, h1, hL, h2, h3⟩ := hpost
    obtain ⟨hq1, hq2⟩ := hq
    have hsr : SRv (ro G) (r.map (fun n => (rty rt, n)) ++ sa) (v.toList ++ rest) := by
      rcases hq1 with ⟨rfl, ho⟩ | ⟨n1, v1, rfl, ho, hr1⟩
      · cases ho
        exact g5
      · cases ho
        exact ⟨hr1, g5⟩
    have W1 := kk B.U.heap ls B.locs (v.toList ++ rest) (by rw [e1]; exact hq2) g2 (fun q0 hq0 => by
      rw [h1] at hq0
      rcases List.mem_append.mp hq0 with z | z
      · exact g3 q0 z
      · exact hL q0 z) hsr
    have a1 : h'.1 - hE.1 = x.2.1 - hE.1 + (h'.1 - x.2.1) := by omega
    have a2 : hsl h' - hsl hE = hsl x.2 - hsl hE + (hsl h' - hsl x.2) := by omega
    rw [a1, a2] at W1
    obtain ⟨t2, b1, b2⟩ := W1 B.U rfl (by rw [h2, h3] at X'; exact X')
    exact ⟨t2, hst t2 b1, b2⟩
  have hws : ∀ w ∈ (Jvm.Cond.code y b n ret :: gw), ∀ (a' : Array Value) (U : State), s.WarmedH U.vm → w.before a' U = true := by
    intro w hw0 a' U hW
    have hwg : w ∈ gw := by
      rcases List.mem_cons.mp hw0 with z | z
      · rw [z]; exact hcw
      · exact z
    exact word_at hW (good_of_word (List.mem_filter.mp hwg).2) (hts w hwg)
  have back : ∀ (avs : List Value), SRv (ro G) (ts.zip vs) avs → Back l R p e below s args y 3 32 (PreOf R (h'.1 - x.2.1) (hsl h' - hsl x.2) (PcM G st H0 avs x.2)) (PostOf (QcM G st H0 rt r h') (h'.1 - x.2.1) (hsl h' - hsl x.2) (Own G)) := fun avs hav =>
    back_of (bytes := b) (maxL := n) (ret := ret) (hM y b n ret kind ts rt hy hbl hmk avs hav) PcM_blind rfl rfl hfr (by show 32 + (n + 11) + 100 * d ≤ R.locals; omega) hws List.mem_cons_self (fun a' U hW => word_at hW (Or.inl (by first | rfl | simp [Cond.onTables, Cond.keeps, Cond.steady])) hini)
  have pre : ∀ (H : Heap) (locs : List Loc) (avs : List Value), HR G st H0 x.2 H → ∀ T : State, T.heap = H → ∀ vm₁, s.WarmedH vm₁ → PreOf R (h'.1 - x.2.1) (hsl h' - hsl x.2) (PcM G st H0 avs x.2) ⟨T.setVm vm₁, locs, x.2.1 - hE.1, hsl x.2 - hsl hE⟩ avs.toArray := by
    intro H locs avs g1 T hT vm₁ hW
    refine ⟨by show x.2.1 - hE.1 + _ ≤ _; omega, by show hsl x.2 - hsl hE + _ ≤ _; omega, rfl, WS_moved hw hW ?_, by show HR G st H0 x.2 T.heap; rw [hT]; exact g1⟩
    intro a ha hna
    show T.heap[a]? = _
    rw [hT]
    exact (vaS_of (locs := []) g1 hsE hhx (fun q h => by cases h)).2.1 a ha hna
  have room : ∀ (ls : Array Slot) (u rest : List Value), SRv (ro G) sa rest → 2 * (F0 m pc ls u).monitorRoom + (rest.map fun v => v.category).sum ≤ 32 := by
    intro ls u rest hr
    rw [SR_sum hr]
    show 2 * 0 + _ ≤ _
    omega
  rcases hcase with ⟨rfl, hlk, hstat, hsig⟩ | ⟨rfl, hlk, hinst, hsel, ⟨ts0, rfl⟩, hsig⟩ | ⟨rfl, hnm, rfl, rfl, hinst, hlk, ⟨ts0, rfl⟩, hsig⟩
  · have hc : cd pc = some (.invokestatic k, 3) := by
      rcases hins with ⟨-, z⟩ | ⟨z, -⟩ | ⟨z, -⟩
      · exact z
      · cases z
      · cases z
    refine At.row hp0 hb hcd hc (fun _ => by intro q; cases q) hk fun H ls locs u g1 g2 g3 g4 kk => ?_
    obtain ⟨u1, rest, rfl, g6, g5⟩ := SR_app g4
    have g7 := SR_rev g6
    rw [List.reverse_reverse] at g7
    intro T hT X
    obtain ⟨v, vm₁, B, hW₁, X', hpost, hst⟩ := callS X hp0 (bytes := b) (maxL := n) (ret := ret) hown hlk hstat hini hcodeb hnmh (back _ g7) (g := F0 m pc ls (u1 ++ rest)) rfl (by show ls.size = _; rw [g2.1, hml]) (argsL := u1.reverse) (rest := rest) (fun sig hs => by rw [SR_len g7, List.length_zip, hlen, Nat.min_self]; exact hsig sig hs) (by rw [List.reverse_reverse]) (room _ _ _ g5) (by rw [hb]; exact hcd _ _ _ hc) (fun vm₁ hW => pre H locs _ g1 T hT vm₁ hW)
    exact fin H ls locs rest (u1 ++ rest) g1 g2 g3 g5 kk T hT X _ (back _ g7) v vm₁ B X' hpost hst
  · have hc : cd pc = some (.invokevirtual k, 3) := by
      rcases hins with ⟨z, -⟩ | ⟨-, z⟩ | ⟨z, -⟩
      · cases z
      · exact z
      · cases z
    obtain ⟨ci, q, hq, hqn, a, vs', rfl, hso⟩ := hrc rfl y hy
    obtain ⟨o, ho⟩ := Option.isSome_iff_exists.mp hso
    refine At.row hp0 hb hcd hc (fun _ => by intro q; cases q) hk fun H ls locs u g1 g2 g3 g4 kk => ?_
    obtain ⟨u1, rest, rfl, g6, g5⟩ := SR_app g4
    have g7 := SR_rev g6
    rw [List.reverse_reverse] at g7
    obtain ⟨v0, w0, hu1, r0, g8⟩ := SR_cons (show SRv (ro G) ((2, a) :: ts0.zip vs') u1.reverse from g7)
    obtain ⟨ea, ho1, ho2⟩ := xob_e ho
    rw [ea] at r0
    have ev0 := rel2_nat r0
    subst ev0
    have hu : u1 = w0.reverse ++ [.ref (ro G o)] := by
      have := congrArg List.reverse hu1
      rw [List.reverse_reverse, List.reverse_cons] at this
      exact this
    obtain ⟨cellB, c1, c2, c3⟩ := recv_ok hw.1 hw.2.1 hsk hsE g1 hhx hq ho
    rw [hqn] at c3
    intro T hT X
    obtain ⟨v, vm₁, B, hW₁, X', hpost, hst⟩ := callV X hp0 (C := y.cls) (bytes := b) (maxL := n) (ret := ret) hown hlk hinst hsel hcodeb hnmh (back _ g7) (b := ro G o) (cellB := cellB) (by rw [hT]; exact c1) c2 c3 (g := F0 m pc ls (u1 ++ rest)) rfl (by show ls.size = _; rw [g2.1, hml]) (argsL := w0) (rest := rest) (fun sig hs => by
        have := hsig sig hs
        have h9 := SR_len g8
        rw [List.length_zip] at h9
        simp only [List.length_cons] at hlen this
        rw [h9]; omega) (by show u1 ++ rest = _; rw [hu]; simp) (room _ _ _ g5) (by rw [hb]; exact hcd _ _ _ hc) (fun vm₁ hW => by
        have := pre H locs (u1.reverse) g1 T hT vm₁ hW
        rw [hu1] at this ⊢
        exact this)
    rw [← hu1] at hpost
    exact fin H ls locs rest (u1 ++ rest) g1 g2 g3 g5 kk T hT X _ (back _ g7) v vm₁ B X' hpost hst
  · have hc : cd pc = some (.invokespecial k, 3) := by
      rcases hins with ⟨z, -⟩ | ⟨z, -⟩ | ⟨-, z⟩
      · cases z
      · cases z
      · exact z
    obtain ⟨o, vs', rfl⟩ := hrn rfl
    refine At.row hp0 hb hcd hc (fun _ => by intro q; cases q) hk fun H ls locs u g1 g2 g3 g4 kk => ?_
    obtain ⟨u1, rest, rfl, g6, g5⟩ := SR_app g4
    have g7 := SR_rev g6
    rw [List.reverse_reverse] at g7
    obtain ⟨v0, w0, hu1, r0, g8⟩ := SR_cons (show SRv (ro G) ((2, (o : Int)) :: ts0.zip vs') u1.reverse from g7)
    have ev0 := rel2_nat r0
    subst ev0
    have hu : u1 = w0.reverse ++ [.ref (ro G o)] := by
      have := congrArg List.reverse hu1
      rw [List.reverse_reverse, List.reverse_cons] at this
      exact this
    intro T hT X
    have hl8 : ∀ sig, parseMethodDescriptor y.desc = some sig → w0.length = sig.parameters.length := fun sig hs => by
      have := hsig sig hs
      have h9 := SR_len g8
      rw [List.length_zip] at h9
      simp only [List.length_cons] at hlen this
      rw [h9]; omega
    rcases hlk with hlk | ⟨host, hlk⟩
    · obtain ⟨v, vm₁, B, hW₁, X', hpost, hst⟩ := callI X hp0 (bytes := b) (maxL := n) hown hnm hlk hinst hcodeb hnmh (back _ g7) (g := F0 m pc ls (u1 ++ rest)) rfl (by show ls.size = _; rw [g2.1, hml]) (a := ro G o) (argsL := w0) (rest := rest) hl8 (by show u1 ++ rest = _; rw [hu]; simp) (room _ _ _ g5) (by rw [hb]; exact hcd _ _ _ hc) (fun vm₁ hW => by
        have := pre H locs (u1.reverse) g1 T hT vm₁ hW
        rw [hu1] at this ⊢
        exact this)
      rw [← hu1] at hpost
      exact fin H ls locs rest (u1 ++ rest) g1 g2 g3 g5 kk T hT X _ (back _ g7) v vm₁ B X' hpost hst
    · obtain ⟨v, vm₁, B, hW₁, X', hpost, hst⟩ := va_callIN X hp0 (bytes := b) (maxL := n) hown hnm hlk hinst hcodeb hnmh (back _ g7) (g := F0 m pc ls (u1 ++ rest)) rfl (by show ls.size = _; rw [g2.1, hml]) (a := ro G o) (argsL := w0) (rest := rest) hl8 (by show u1 ++ rest = _; rw [hu]; simp) (room _ _ _ g5) (by rw [hb]; exact hcd _ _ _ hc) (fun vm₁ hW => by
        have := pre H locs (u1.reverse) g1 T hT vm₁ hW
        rw [hu1] at this ⊢
        exact this)
      rw [← hu1] at hpost
      exact fin H ls locs rest (u1 ++ rest) g1 g2 g3 g5 kk T hT X _ (back _ g7) v vm₁ B X' hpost hst
end Calls8
