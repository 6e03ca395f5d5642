/-! EVERY METHOD KEEPS ITS CONTRACT, by induction on the depth of calls -/
theorem xa_len {r : Nat → Nat} : ∀ {ts : List Nat} {vs : List Int} {avs : List Value}, vs.length = ts.length → (∀ t ∈ ts, t < 3) → SRv r (ts.zip vs) avs → (xargs ts vs).length = (ts.map cat).sum ∧ (lg_sl avs).length = (ts.map cat).sum
  | [], [], [], _, _, _ => ⟨rfl, rfl⟩
  | t :: ts, v :: vs, a :: avs, hl, ht, h => by
    obtain ⟨h1, h2⟩ := xa_len (ts := ts) (vs := vs) (avs := avs) (by simpa using hl) (fun t h => ht t (List.mem_cons_of_mem _ h)) h.2
    have hc := rel_cat h.1
    have e1 : lg_sl (a :: avs) = (if a.category = 2 then [Slot.val a, .second] else [.val a]) ++ lg_sl avs := rfl
    have ht0 := ht t List.mem_cons_self
    have hc2 : a.category = cat t := hc
    by_cases h1t : t = 1
    · subst h1t
      have : cat 1 = 2 := rfl
      rw [e1, hc2, this]
      simp only [xargs, if_true, List.length_cons, List.map_cons, List.sum_cons, List.length_append, this]
      constructor
      · omega
      · simp; omega
    · have : cat t = 1 := by
        unfold cat
        rw [if_neg h1t, if_neg (by omega)]
      rw [e1, hc2, this]
      simp only [xargs, h1t, if_false, List.length_cons, List.map_cons, List.sum_cons, List.length_append, this]
      constructor
      · omega
      · simp; omega
theorem xa_pos {r : Nat → Nat} : ∀ {ts : List Nat} {vs : List Int} {avs : List Value} (k : Nat), vs.length = ts.length → (∀ t ∈ ts, t < 3) → SRv r (ts.zip vs) avs → ∀ (i t : Nat) (n : Int), (xargs ts vs)[i]? = some (t, n) → t < 3 → ∃ v, rel r t n v ∧ (k + i, v) ∈ lv_args k avs
  | [], [], [], k, _, _, _, i, t, n, h, _ => by simp [xargs] at h
  | t0 :: ts, v0 :: vs, a :: avs, k, hl, ht, hs, i, t, n, h, h3 => by
    have hc2 : a.category = cat t0 := rel_cat hs.1
    have ht0 := ht t0 List.mem_cons_self
    by_cases h1t : t0 = 1
    · subst h1t
      have hcc : a.category = 2 := hc2
      simp only [xargs, if_true] at h
      match i, h with
      | 0, h => cases h; exact ⟨a, hs.1, by simp [lv_args]⟩
      | 1, h => cases h; omega
      | i + 2, h =>
        obtain ⟨v, e1, e2⟩ := xa_pos (k + 2) (ts := ts) (vs := vs) (avs := avs) (by simpa using hl) (fun t h => ht t (List.mem_cons_of_mem _ h)) hs.2 i t n (by simpa using h) h3
        refine ⟨v, e1, ?_⟩
        simp only [lv_args, hcc, if_true]
        rw [show k + (i + 2) = k + 2 + i by omega]
        exact List.mem_cons_of_mem _ e2
    · have hcc : ¬ a.category = 2 := by
        rw [hc2]
        unfold cat
        rw [if_neg h1t, if_neg (by omega)]
        decide
      simp only [xargs, h1t, if_false] at h
      match i, h with
      | 0, h => cases h; exact ⟨a, hs.1, by simp [lv_args]⟩
      | i + 1, h =>
        obtain ⟨v, e1, e2⟩ := xa_pos (k + 1) (ts := ts) (vs := vs) (avs := avs) (by simpa using hl) (fun t h => ht t (List.mem_cons_of_mem _ h)) hs.2 i t n (by simpa using h) h3
        refine ⟨v, e1, ?_⟩
        simp only [lv_args, hcc, if_false]
        rw [show k + (i + 1) = k + 1 + i by omega]
        exact List.mem_cons_of_mem _ e2
theorem LR_entry {r : Nat → Nat} {ts : List Nat} {vs : List Int} {avs : List Value} {nL : Nat} (hl : vs.length = ts.length) (ht : ∀ t ∈ ts, t < 3) (hs : SRv r (ts.zip vs) avs) (hn : (ts.map cat).sum ≤ nL) : LR r (xargs ts vs ++ List.replicate (nL - (xargs ts vs).length) (9, 0)) ((lg_sl avs ++ List.replicate (nL - (lg_sl avs).length) Slot.unset).toArray) := by
  obtain ⟨h1, h2⟩ := xa_len hl ht hs
  have hv := lv_entry avs (n := nL) (by omega)
  refine ⟨by rw [hv.1]; simp; omega, hv.2.1, fun i t n hi h3 => ?_⟩
  by_cases hlt : i < (xargs ts vs).length
  · rw [List.getElem?_append_left hlt] at hi
    obtain ⟨v, e1, e2⟩ := xa_pos 0 hl ht hs i t n hi h3
    refine ⟨v, e1, ?_⟩
    have := hv.2.2 (0 + i, v) e2
    simpa using this
  · rw [List.getElem?_append_right (by omega)] at hi
    have hm := List.mem_of_getElem? hi
    have := List.eq_of_mem_replicate hm
    cases this
    omega
/-- what the programs have checked of a method -/
def MOK (mt : xM) (mi : Nat) : Prop := ∀ nL ts rc rt t, mt mi = some (nL, ts, rc, rt, t) → ∃ (y : MethodName) (b : ByteArray) (ret : Option FieldType) (kind own : Nat) (nm : String) (cd : xC) (q : Nat × Nat), mL[mi]? = some (y, b, nL, ret) ∧ pmk mi = some (kind, ts, rt) ∧ cnm[own]? = some nm ∧ y.cls = nm ∧ (∀ q : vw_C, pCl[own]? = some q → q.1 = nm) ∧ CdOK cd b ∧ wfT t = true ∧ kcl (tagT t) = 2 ∧ ck pft pfn cd ppl pmk own (decide (y.name = "<init>")) rt t 0 0 0 0 = some q ∧ plainFor y = true ∧ (kind = 1 → ∃ ci q, rc = ci + 1 ∧ pCl[ci]? = some q ∧ q.1 = y.cls)
theorem xcall_e {mt : xM} {F d mi : Nat} {vs r : List Int} {h h' : xH} (hc : xcall pft mt F pS (d + 1) mi vs h = some (r, h')) : ∃ nL ts rc rt t L', mt mi = some (nL, ts, rc, rt, t) ∧ vs.length = ts.length ∧ xrecv h rc vs = true ∧ ev pft (xcall pft mt F pS d) F pS t 0 (xargs ts vs ++ List.replicate (nL - (xargs ts vs).length) (9, 0), h) = some (3, r, (L', h')) ∧ xret rt r = true := by
  unfold xcall at hc
  split at hc
  · rename_i nL ts rc rt t hm
    obtain ⟨⟨h1, h2⟩, hc⟩ := if_some hc
    split at hc
    · rename_i r0 s he
      obtain ⟨h3, hc⟩ := if_some hc
      cases hc
      exact ⟨nL, ts, rc, rt, t, s.1, hm, h1, h2, he, h3⟩
    · cases hc
  · cases hc
theorem fit_ret {rt : Nat} {n : Int} {y : Int32} (hx' : xret rt [n] = true) (hn : n = y.toInt) (h : rt = 3 ∨ rt = 4 ∨ rt = 5) : narrow (if rt = 3 then .boolean else if rt = 4 then .byte else .char) (.int y) = .int y := by
  rcases h with rfl | rfl | rfl
  · have h4 : n = 0 ∨ n = 1 := by simpa [xret] using hx'
    have h5 : y = 0 ∨ y = 1 := by
      rcases h4 with z | z
      · left; exact Int32.toInt_inj.mp (by rw [← hn, z]; rfl)
      · right; exact Int32.toInt_inj.mp (by rw [← hn, z]; rfl)
    rcases h5 with rfl | rfl <;> decide
  · have h4 : -128 ≤ n ∧ n ≤ 127 := by simpa [xret] using hx'
    have h5 : y.toInt8.toInt32 = y := Int32.toInt_inj.mp (by
      rw [Int8.toInt_toInt32, Int32.toInt_toInt8, ← hn]
      exact Int.bmod_eq_of_le (by omega) (by omega))
    have h6 := pk_nb y
    rw [h5] at h6
    exact h6
  · have h4 : 0 ≤ n ∧ n ≤ 65535 := by simpa [xret] using hx'
    have h5 : (y.toUInt32 % 65536).toInt32 = y := Int32.toInt_inj.mp (by
      rw [toInt_i2c, ← hn]
      omega)
    have h6 := pk_nc y
    rw [h5] at h6
    exact h6
theorem met_all {l : Launch} {G : xG} {st : xStt} {H0 : Heap} {mt : xM} {F : Nat} (hmt : ∀ mi, MOK mt mi) (hsk : StK st) : ∀ d, CL l G st H0 d (xcall pft mt F pS d) := by
  intro d
  induction d with
  | zero => intro mi vs h r h' hc; cases hc
  | succ d ih =>
    intro mi vs h r h' hc
    obtain ⟨nL, ts, rc, rt, t, L', hm, hlen, hrv, he, hret⟩ := xcall_e hc
    obtain ⟨y, b, ret, kind, own, nm, cd, q, e1, e2, e3, e4, e5, e6, e7, e8, e9, e10, e11⟩ := hmt mi nL ts rc rt t hm
    have hpx := ev_px (fun mi vs h r h' z => (ih mi vs h r h' z).1) t _ _ _ _ _ he
    have hlt : mi < mL.length := (List.getElem?_eq_some_iff.mp e1).1
    obtain ⟨y', b', n', ret', kind', ts', rt', g1, g2, g3, g4, hf⟩ := m_at hlt
    cases e1.symm.trans g1
    cases e2.symm.trans g4
    obtain ⟨f1, f2, f3, f4, f5, f6, f7, f8, f9⟩ := mf_ts hf
    refine ⟨hpx.1, fun kind2 ts2 rt2 hk2 => ?_⟩
    cases e2.symm.trans hk2
    refine ⟨hlen, fun hpS => ?_, fun hk1 y2 hy2 => ?_, hret⟩
    · intro y2 b2 n2 ret2 kind2 ts2 rt2 hy2 hb2 hk2 avs hav
      cases g2.symm.trans hy2
      cases g3.symm.trans hb2
      cases e2.symm.trans hk2
      refine va_MetF (cc := b) (maxL := nL) (ret := ret) e10 rfl ?_
      intro p e s m args below meth c s₁ B hml hv
      obtain ⟨rfl, hws, hHR⟩ := hv
      have hts0 := atoms_spec (ws := Jvm.Cond.code y b nL ret :: gw) B.pre
      have hts : ∀ w ∈ gw, w.before avs.toArray s = true := fun w hw => hts0 w (List.mem_cons_of_mem _ hw)
      have hown : s.vm.findClass nm = some m.cls := by rw [← e4]; exact findClass_of_methodNamed B.named
      have hlocks : meth.locks = false := B.notSynchronized
      have hr := B.returns
      have hx := B.exec
      have hb := B.bytes
      have hin : meth.name = y.name := (name_of_methodNamed B.named B.method).1
      have K : Kx p l e (headSpec (Jvm.Cond.code y b nL ret :: gw) { frames := d + 1, cells := h'.1 - h.1, slots := hsl h' - hsl h, locals := 100 * (d + 1) }).room s m avs.toArray below meth c (MQ below (QcM G st H0 rt r h') avs.toArray s (h'.1 - h.1) (hsl h' - hsl h) (Own G)) G st H0 h cd b nm own (decide (y.name = "<init>")) nL rt d (xcall pft mt F pS d) F r h' := by
        refine ⟨hx, hb, e6, hown, hts, hws, hsk, hHR, hpS, hml.symm, poolI_of e3 hts, poolJ_of e3 hts, poolF_of e3 hts, poolS_of e3 hts hws.2.2.2.1, hws.2.2.2.2.1 own nm e3, poolC_of e3 hts, poolA_of hts, poolO_of e3 hts, poolM_of e3 hts hws.2.2.2.2.2, poolY_of e3 hts, ⟨Nat.le_refl _, ?_⟩, fun z => ?_, e5, ih, ?_⟩
        · show 83 + 100 * d ≤ 100 * (d + 1)
          omega
        · rw [hin]
          simpa using z
        · intro pc H ls locs hH hlo
          refine ⟨fun h9 hrv0 hcd => ?_, fun h9 n v hrv0 hrel hcd => ?_⟩
          · subst h9
            have hrn : ret = none := by
              unfold retOK at f3
              split at f3 <;> first | rfl | (cases f3; done) | (rename_i z _; omega)
            subst hrn
            exact W.vret hx hb hr (fun t0 ht0 hW => ⟨Or.inl ⟨hrv0, rfl⟩, by rw [ht0]; exact hH⟩) hlo (e6 _ _ _ hcd)
          · subst hrv0
            have hd := e6 _ _ _ hcd
            have hq : ∀ t0 : State, t0.heap = H → s.WarmedH t0.vm → QcM G st H0 rt [n] h' avs.toArray s (.returned (some v)) t0 := fun t0 ht0 hW => ⟨Or.inr ⟨n, v, rfl, rfl, hrel⟩, by rw [ht0]; exact hH⟩
            unfold retOK at f3
            split at f3
            · exact absurd rfl h9
            · obtain ⟨z, rfl, ez⟩ := id hrel
              exact W.iret hx hb hr hq hlo hd
            · obtain ⟨z, rfl, ez⟩ := id hrel
              exact W.lret hx hb hr hq hlo hd
            · exact W.aret hx hb hr (Or.inl ⟨_, rfl⟩) (rel2 hrel) hq hlo hd
            · exact W.aret hx hb hr (Or.inr ⟨_, rfl⟩) (rel2 hrel) hq hlo hd
            · obtain ⟨z, rfl, ez⟩ := id hrel
              exact W.zret hx hb hr (fit_ret hret ez (Or.inl rfl)) hq hlo hd
            · obtain ⟨z, rfl, ez⟩ := id hrel
              exact W.zret hx hb hr (fit_ret hret ez (Or.inr (Or.inl rfl))) hq hlo hd
            · obtain ⟨z, rfl, ez⟩ := id hrel
              exact W.zret hx hb hr (fit_ret hret ez (Or.inr (Or.inr rfl))) hq hlo hd
            · cases f3
      have hlen0 : (xargs ts vs ++ List.replicate (nL - (xargs ts vs).length) (9, 0)).length = nL := by
        obtain ⟨z1, -⟩ := xa_len hlen f8 hav
        simp
        omega
      obtain ⟨S1, S2, S3⟩ := snd_all K t e7 0 0 0 0 [] 0 _ _ _ _ q.1 q.2 e9 he hlen0 hx_rf
      have S4 := S3 (by simp) ⟨Nat.le_refl _, Nat.le_refl _⟩
      simp only [Concl, e8] at S4
      have S5 := S4 ⟨rfl, rfl⟩
      rw [lg_entry_eq]
      have W1 := S5 s.heap _ [] [] hHR (LR_entry hlen f8 hav f9) (fun q h => by cases h) trivial
      simp only [Nat.sub_self] at W1
      exact go_nrm hx hb e6 9 0 W1
    · cases g2.symm.trans hy2
      obtain ⟨ci, q2, hrc, hq2, hq3⟩ := e11 hk1
      subst hrc
      unfold xrecv at hrv
      split at hrv
      · rename_i z; cases z
      · rename_i c0 v0 w0 z
        cases z
        exact ⟨ci, q2, hq2, hq3, v0, w0, rfl, hrv⟩
      · cases hrv
