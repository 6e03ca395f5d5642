/-! THE LAW OUT OF ITS TREE (the frame of it is the skeleton's, a starting text) -/
/-! THE CLAIM OUT OF ONE WALK OF THE LAW'S BODY. Your part is whole_start (and what it stands on); all else here is the same for every law, but numbers. -/
def R_law : String := "GatedPileLaw"
def lw_P (b : Addr) (xs : List Int32) (args : Array Value) (s : State) : Prop := args = #[.ref b] ∧ s.IntsAt b xs ∧ xs.length ≤ 384 ∧ (Jvm.Cond.and given_1 narrow_1).before args s = true
def lw_Q (_ : Array Value) (s : State) (o : Outcome) (t : State) : Prop := o = .returned (some (.int 1)) ∧ Framed s o t [] 600000 7302250
def lw_Z (below : List Frame) (a : Array Value) (s : State) : State → Prop := fun t => ∃ o, t.status = .running ∧ Ended t below o ∧ lw_Q a s o t
/-- the law's own end, with 1 on the stack, nothing written that was there before, its room as the claim has it -/
theorem lw_ret {p : Program} {l : Launch} {e : Env} {s : State} {m : MethodId} {below : List Frame} {meth : Method} {c : Code} {b : Nat} (hx : p.tables.exec = Jvm.exec) (hb : c.code = code) (hr : meth.sig.returnType = ret) (hlocks : meth.locks = false) {pc : Nat} {H : Heap} {ls : Array Slot} (hdg : decode code pc = .ok (.ireturn, 1)) : W p l e room_1 s m #[Value.ref b] below meth c H [] 600000 7302250 (lw_Z below #[Value.ref b] s) (F0 m pc ls [.int 1]) := by
  intro T hT X
  obtain ⟨fs, hret, hrun, hended, hW, hframe⟩ := X.leave (v := some (.int 1)) (hlocks := hlocks) (fun h => by rw [hr] at h; cases h)
  have hmeth' : T.vm.method? m = some meth := X.method'
  refine ⟨T.setFrames fs, ?_, .returned (some (.int 1)), hrun, hended, rfl, ⟨_, rfl⟩, hW, hframe⟩
  jvm_step X.here [X.here.top, hx, hb, hdg, hmeth', hr, ret, narrow_b1]
  (try refine ⟨rfl, ?_⟩); (try refine ⟨rfl, ?_⟩)
  first | (intro acts; rw [hret _ acts rfl rfl rfl]) | rw [hret _ _ rfl rfl rfl]
  exact Steps.refl _
/-- what holds at the law's entry: the machine, the code, the tables' words (any of lw_tbl by 'hts w (by decide +kernel)'), the script of L ints xs at the cell b, what the Statement gives of the start (any of its parts by flat_of_before) -/
def lw_At (p : Program) (s : State) (m : MethodId) (meth : Method) (c : Code) (b L : Nat) (xs : Nat → Int32) : Prop :=
  p.tables.exec = Jvm.exec ∧ c.code = code ∧ meth.sig.returnType = ret ∧ c.maxLocals = 4 ∧ s.vm.findClass R_law = some m.cls ∧ (∀ w ∈ lw_tbl, w.before #[Value.ref b] s = true) ∧ va_X b L xs s s.heap ∧ b < s.heap.size ∧ meth.locks = false ∧ (Jvm.Cond.and given_1 narrow_1).before #[Value.ref b] s = true
/-- what is left: the law's tree comes to 1, in its room -/
def PureLaw (L : Nat) (xs : Nat → Int32) : Prop := ∃ (F d : Nat) (L' : xL) (h' : xH), d ≤ 839 ∧ ev pft (xcall pft pmt F pS d) F pS tr_334 0 ([(2, 0), (9, 0), (9, 0), (9, 0)], h00 L xs) = some (3, [1], (L', h')) ∧ h'.1 - pS ≤ 600000 ∧ hsl h' ≤ 7302250
theorem law_start {p : Program} {e : Env} {s : State} {m : MethodId} {below : List Frame} {meth : Method} {c : Code} (l : Launch) {b L : Nat} {xs : Nat → Int32} (hL : L ≤ 384) (C0 : lw_At p s m meth c b L xs) (hP : PureLaw L xs) : W p l e room_1 s m #[Value.ref b] below meth c s.heap [] 0 0 (lw_Z below #[Value.ref b] s) (entryFrame m ([Value.ref b] : List Value).toArray 4) := by
  obtain ⟨hx0, hb, hr, hml, hown, hts, hX, hbl, hlocks, hgv⟩ := C0
  obtain ⟨F, d, L', h', hd, he, hc1, hc2⟩ := hP
  obtain ⟨G, g1, g2, hws⟩ := start_W hL hts hX hbl hgv
  have hg : ∀ w ∈ gw, w.before #[Value.ref b] s = true := fun w hw => hts w (gw_in w hw)
  have hHR : HR G (st0 L xs) s.heap (h00 L xs) s.heap := h00_R G L xs s.heap g1
  obtain ⟨y, b0, ret0, kind, own, nm, cd, q, e1, e2, e3, e4, e5, e6, e7, e8, e9, e10, e11⟩ := mk_334
  cases e1
  cases e2
  have e3' : cnm[own]? = some "GatedPileLaw" := by rw [e3, ← e4]
  have hnm : nm = "GatedPileLaw" := e4.symm
  subst hnm
  have K : Kx p l e room_1 s m #[Value.ref b] below meth c (lw_Z below #[Value.ref b] s) G (st0 L xs) s.heap (h00 L xs) cd code "GatedPileLaw" own (decide (("law" : String) = "<init>")) 4 3 d (xcall pft pmt F pS d) F [1] h' := by
    refine ⟨hx0, hb, e6, hown, hg, hws, st0_K L xs, hHR, Nat.le_refl _, hml.symm, poolI_of e3 hg, poolJ_of e3 hg, poolF_of e3 hg, poolS_of e3 hg hws.2.2.2.1, hws.2.2.2.2.1 own _ e3, poolC_of e3 hg, poolA_of hg, poolO_of e3 hg, poolM_of e3 hg hws.2.2.2.2.2, poolY_of e3 hg, ⟨by show d + 1 ≤ 2048; omega, by show 83 + 100 * d ≤ 84000; omega⟩, fun z => by simp at z, e5, met_all pmt_ok (st0_K L xs) d, ?_⟩
    intro pc H ls locs hH hlo
    refine ⟨fun h9 => absurd h9 (by decide), fun h9 n v hrv hrel hcd => ?_⟩
    cases hrv
    obtain ⟨z, rfl, ez⟩ := id hrel
    have hz : z = 1 := Int32.toInt_inj.mp (by rw [← ez]; rfl)
    subst hz
    have hd0 := e6 _ _ _ hcd
    refine va_forget (fun q hq => by have := hlo q hq; unfold Own at this; omega) (W.widen (k := 600000) (n := 7302250) ?_ ?_ (lw_ret hx0 hb hr hlocks hd0))
    · show h'.1 - pS ≤ 600000
      exact hc1
    · omega
  obtain ⟨S1, S2, S3⟩ := snd_all K tr_334 e7 0 0 0 0 [] 0 _ _ _ _ q.1 q.2 e9 he rfl hx_rf
  have S4 := S3 (by simp) ⟨hc1, by show hsl h' - hsl (h00 L xs) ≤ 7302250; omega⟩
  simp only [Concl, e8] at S4
  have S5 := S4 ⟨rfl, rfl⟩
  rw [lg_entry_eq]
  have hav : SRv (ro G) (([2] : List Nat).zip [0]) [Value.ref b] := ⟨Or.inr (Or.inr ⟨0, rfl, by rw [show ro G 0 = G.2.2.1 0 from if_pos (by decide), g2]⟩), trivial⟩
  have W1 := S5 s.heap _ [] [] hHR (LR_entry (nL := 4) (ts := [2]) (vs := [0]) rfl (by decide) hav (by decide)) (fun q h => by cases h) trivial
  simp only [Nat.sub_self] at W1
  exact go_nrm hx0 hb e6 9 0 W1
