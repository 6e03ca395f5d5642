/-! NOTHING GOES AWAY: a pure fact -/
def Px (s s' : xS) : Prop := hx s.2 s'.2 ∧ s'.1.length = s.1.length
theorem Px_rf {s : xS} : Px s s := ⟨hx_rf, rfl⟩
theorem Px_tr {a b c : xS} (h1 : Px a b) (h2 : Px b c) : Px a c := ⟨hx_tr h1.1 h2.1, h2.2.trans h1.2⟩
theorem Px_put (s : xS) (a k : Nat) (v : Int) : Px s (s.1, hput s.2 a k v) := ⟨hx_put _ _ _ _, rfl⟩
theorem Px_new (s : xS) (kd n : Nat) : Px s (s.1, hnew pft s.2 kd n) := ⟨hx_new _ _ _ _, rfl⟩
theorem Px_set (s : xS) (i t : Nat) (n : Int) : Px s (lset s.1 i t n, s.2) := ⟨hx_rf, hx_len_lset _ _ _ _⟩
theorem Px_cl {s : xS} {h : xH} (hh : hx s.2 h) : Px s (s.1, h) := ⟨hh, rfl⟩
theorem xloop_px {cf bf uf : xS → Option xR} (hc : ∀ x k v y, cf x = some (k, v, y) → Px x y) (hb : ∀ x k v y, bf x = some (k, v, y) → Px x y) (hu : ∀ x k v y, uf x = some (k, v, y) → Px x y) : ∀ (n : Nat) (x : xS) (k : Nat) (v : List Int) (y : xS), xloop cf bf uf n x = some (k, v, y) → Px x y := by
  intro n
  induction n with
  | zero => intro x k v y h; cases h
  | succ n ih =>
    intro x k v y h
    rcases xloop_e h with ⟨s1, e1, hz⟩ | ⟨s1, e1, ⟨k2, v2, s2, e2, -, v3, s3, e3, h⟩ | ⟨v2, s2, e2, hz⟩ | ⟨v2, s2, e2, hz⟩⟩
    · cases hz; exact hc _ _ _ _ e1
    · exact Px_tr (hc _ _ _ _ e1) (Px_tr (hb _ _ _ _ e2) (Px_tr (hu _ _ _ _ e3) (ih _ _ _ _ h)))
    · cases hz; exact Px_tr (hc _ _ _ _ e1) (hb _ _ _ _ e2)
    · cases hz; exact Px_tr (hc _ _ _ _ e1) (hb _ _ _ _ e2)
theorem xdo_px {cf bf : xS → Option xR} (hc : ∀ x k v y, cf x = some (k, v, y) → Px x y) (hb : ∀ x k v y, bf x = some (k, v, y) → Px x y) : ∀ (n : Nat) (x : xS) (k : Nat) (v : List Int) (y : xS), xdo bf cf n x = some (k, v, y) → Px x y := by
  intro n
  induction n with
  | zero => intro x k v y h; cases h
  | succ n ih =>
    intro x k v y h
    rcases xdo_e h with ⟨k2, v2, s1, e1, -, ⟨s2, e2, h⟩ | ⟨s2, e2, hz⟩⟩ | ⟨v2, s1, e1, hz⟩ | ⟨v2, s1, e1, hz⟩
    · exact Px_tr (hb _ _ _ _ e1) (Px_tr (hc _ _ _ _ e2) (ih _ _ _ _ h))
    · cases hz; exact Px_tr (hb _ _ _ _ e1) (hc _ _ _ _ e2)
    · cases hz; exact hb _ _ _ _ e1
    · cases hz; exact hb _ _ _ _ e1
theorem ev_px {cl : Nat → List Int → xH → Option (List Int × xH)} {F : Nat} (hcl : ∀ mi vs h r h', cl mi vs h = some (r, h') → hx h h') : (t : xT) → ∀ (g : Nat) (x : xS) (k : Nat) (v : List Int) (y : xS), ev pft cl F pS t g x = some (k, v, y) → Px x y
  | .group (.tag k (.nest i (.append a (.append b c)))) _, g, x, kk, v, y, h => by
    have ha := fun g x k v y z => ev_px (F := F) hcl a g x k v y z
    have hb := fun g x k v y z => ev_px (F := F) hcl b g x k v y z
    have hc := fun g x k v y z => ev_px (F := F) hcl c g x k v y z
    simp only [ev] at h
    split at h
    · obtain ⟨n1, s1, ea, h⟩ := xb_e h
      split at h
      · exact Px_tr (ha _ _ _ _ _ ea) (hb _ _ _ _ _ h)
      · exact Px_tr (ha _ _ _ _ _ ea) (hc _ _ _ _ _ h)
    · obtain ⟨n1, s1, ea, h⟩ := xb_e h
      obtain ⟨n2, s2, eb, h⟩ := xb_e h
      obtain ⟨n3, s3, ec, h⟩ := xb_e h
      split at h
      · obtain ⟨-, h⟩ := if_some h
        cases h
        exact Px_tr (ha _ _ _ _ _ ea) (Px_tr (hb _ _ _ _ _ eb) (Px_tr (hc _ _ _ _ _ ec) (Px_put _ _ _ _)))
      · cases h
    · obtain ⟨n1, s1, ea, h⟩ := xb_e h
      split at h
      · exact Px_tr (ha _ _ _ _ _ ea) (hb _ _ _ _ _ h)
      · exact Px_tr (ha _ _ _ _ _ ea) (hc _ _ _ _ _ h)
    · obtain ⟨n1, s1, ea, h⟩ := xb_e h
      split at h
      · split at h
        · cases h
        · exact Px_tr (ha _ _ _ _ _ ea) (hb _ _ _ _ _ h)
      · exact Px_tr (ha _ _ _ _ _ ea) (hc _ _ _ _ _ h)
    · obtain ⟨n1, s1, ea, h⟩ := xb_e h
      split at h
      · exact Px_tr (ha _ _ _ _ _ ea) (hb _ _ _ _ _ h)
      · split at h
        · cases h
        · exact Px_tr (ha _ _ _ _ _ ea) (hc _ _ _ _ _ h)
    · exact xloop_px (fun x k v y q => ha _ _ _ _ _ q) (fun x k v y q => hb _ _ _ _ _ q) (fun x k v y q => hc _ _ _ _ _ q) _ _ _ _ _ h
    · obtain ⟨n1, s1, ea, h⟩ := xb_e h
      split at h
      · rename_i v2 s2 hz
        cases h
        exact Px_tr (ha _ _ _ _ _ ea) (hc _ _ _ _ _ hz)
      · exact Px_tr (ha _ _ _ _ _ ea) (hc _ _ _ _ _ h)
    · obtain ⟨n1, s1, ea, h⟩ := xb_e h
      obtain ⟨n2, s2, eb, h⟩ := xb_e h
      split at h
      · obtain ⟨n3, s3, ec, h⟩ := xb_e h
        split at h
        · obtain ⟨-, h⟩ := if_some h
          cases h
          exact Px_tr (ha _ _ _ _ _ ea) (Px_tr (hb _ _ _ _ _ eb) (Px_tr (hc _ _ _ _ _ ec) (Px_put _ _ _ _)))
        · cases h
      · cases h
    · cases h
  | .tag k (.nest i (.append a b)), g, x, kk, v, y, h => by
    have ha := fun g x k v y z => ev_px (F := F) hcl a g x k v y z
    have hb := fun g x k v y z => ev_px (F := F) hcl b g x k v y z
    simp only [ev] at h
    split at h
    · cases h
      exact Px_rf
    · cases h
      exact Px_rf
    · split at h
      · split at h
        · cases h; exact Px_rf
        · cases h
      · cases h
    · obtain ⟨n1, s1, ea, h⟩ := xb_e h
      obtain ⟨n2, s2, eb, h⟩ := xb_e h
      split at h
      · cases h; exact Px_tr (ha _ _ _ _ _ ea) (hb _ _ _ _ _ eb)
      · cases h
    · obtain ⟨n1, s1, ea, h⟩ := xb_e h
      split at h
      · cases h; exact ha _ _ _ _ _ ea
      · cases h
    · obtain ⟨n1, s1, ea, h⟩ := xb_e h
      split at h
      · cases h; exact ha _ _ _ _ _ ea
      · cases h
    · obtain ⟨n1, s1, ea, h⟩ := xb_e h
      obtain ⟨n2, s2, eb, h⟩ := xb_e h
      split at h
      · cases h; exact Px_tr (ha _ _ _ _ _ ea) (hb _ _ _ _ _ eb)
      · cases h
    · obtain ⟨n1, s1, ea, h⟩ := xb_e h
      obtain ⟨-, h⟩ := if_some h
      cases h
      exact ha _ _ _ _ _ ea
    · obtain ⟨vs, s1, eb, h⟩ := xa_e h
      split at h
      · rename_i r h2 hc
        cases h
        exact Px_tr (hb _ _ _ _ _ eb) (Px_cl (hcl _ _ _ _ _ hc))
      · cases h
    · obtain ⟨vs, s1, eb, h⟩ := xa_e h
      split at h
      · rename_i h2 hc
        cases h
        exact Px_tr (Px_new _ _ _) (Px_tr (hb _ _ _ _ _ eb) (Px_cl (hcl _ _ _ _ _ hc)))
      · cases h
    · obtain ⟨n1, s1, ea, h⟩ := xb_e h
      obtain ⟨-, h⟩ := if_some h
      cases h
      exact Px_tr (ha _ _ _ _ _ ea) (Px_new _ _ _)
    · obtain ⟨vs, s1, eb, h⟩ := xa_e h
      cases h
      exact Px_tr (Px_new _ _ _) (hb _ _ _ _ _ eb)
    · obtain ⟨n1, s1, ea, h⟩ := xb_e h
      split at h
      · obtain ⟨-, h⟩ := if_some h
        exact Px_tr (ha _ _ _ _ _ ea) (Px_tr (Px_put _ _ _ _) (hb _ _ _ _ _ h))
      · cases h
    · cases h
      exact Px_rf
    · cases h
      exact Px_rf
    · cases h
      exact Px_rf
    · obtain ⟨n1, s1, ea, h⟩ := xb_e h
      obtain ⟨n2, s2, eb, h⟩ := xb_e h
      cases h
      exact Px_tr (ha _ _ _ _ _ ea) (hb _ _ _ _ _ eb)
    · obtain ⟨n1, s1, ea, h⟩ := xb_e h
      cases h
      exact ha _ _ _ _ _ ea
    · obtain ⟨n1, s1, ea, h⟩ := xb_e h
      obtain ⟨n2, s2, eb, h⟩ := xb_e h
      cases h
      exact Px_tr (ha _ _ _ _ _ ea) (hb _ _ _ _ _ eb)
    · obtain ⟨n1, s1, ea, h⟩ := xb_e h
      split at h
      · exact Px_tr (ha _ _ _ _ _ ea) (hb _ _ _ _ _ h)
      · cases h; exact ha _ _ _ _ _ ea
    · obtain ⟨n1, s1, ea, h⟩ := xb_e h
      split at h
      · cases h; exact ha _ _ _ _ _ ea
      · exact Px_tr (ha _ _ _ _ _ ea) (hb _ _ _ _ _ h)
    · obtain ⟨n1, s1, ea, h⟩ := xb_e h
      cases h
      exact ha _ _ _ _ _ ea
    · obtain ⟨n1, s1, ea, h⟩ := xb_e h
      split at h
      · split at h
        · cases h
        · exact Px_tr (ha _ _ _ _ _ ea) (hb _ _ _ _ _ h)
      · cases h; exact ha _ _ _ _ _ ea
    · cases h
      exact Px_rf
    · rcases xq_e h with ⟨vs, s1, ea, h⟩ | ⟨k2, vs, s1, ea, hz⟩
      · exact Px_tr (ha _ _ _ _ _ ea) (hb _ _ _ _ _ h)
      · cases hz; exact ha _ _ _ _ _ ea
    · obtain ⟨n2, s2, eb, h⟩ := xb_e h
      obtain ⟨-, h⟩ := if_some h
      cases h
      exact Px_tr (hb _ _ _ _ _ eb) (Px_set _ _ _ _)
    · split at h
      · cases h; exact Px_set _ _ _ _
      · cases h
    · obtain ⟨n1, s1, ea, h⟩ := xb_e h
      obtain ⟨n2, s2, eb, h⟩ := xb_e h
      split at h
      · obtain ⟨-, h⟩ := if_some h
        cases h
        exact Px_tr (ha _ _ _ _ _ ea) (Px_tr (hb _ _ _ _ _ eb) (Px_put _ _ _ _))
      · cases h
    · split at h
      · rename_i s1 ea
        cases h
        exact ha _ _ _ _ _ ea
      · cases h
    · obtain ⟨n1, s1, ea, h⟩ := xb_e h
      cases h
      exact ha _ _ _ _ _ ea
    · obtain ⟨n1, s1, ea, h⟩ := xb_e h
      split at h
      · exact Px_tr (ha _ _ _ _ _ ea) (hb _ _ _ _ _ h)
      · cases h; exact ha _ _ _ _ _ ea
    · exact xloop_px (fun x k v y q => by cases q; exact Px_rf) (fun x k v y q => hb _ _ _ _ _ q) (fun x k v y q => by cases q; exact Px_rf) _ _ _ _ _ h
    · exact xdo_px (fun x k v y q => hb _ _ _ _ _ q) (fun x k v y q => ha _ _ _ _ _ q) _ _ _ _ _ h
    · cases h
      exact Px_rf
    · cases h
      exact Px_rf
    · obtain ⟨n2, s2, eb, h⟩ := xb_e h
      cases h
      exact hb _ _ _ _ _ eb
    · cases h
      exact Px_rf
    · cases g with
      | zero =>
        dsimp only at h
        split at h
        · cases h
        · exact ha _ _ _ _ _ h
      | succ g => exact hb _ _ _ _ _ h
    · cases g with
      | zero =>
        rcases xq_e h with ⟨vs, s1, ea, h⟩ | ⟨k2, vs, s1, ea, hz⟩
        · exact Px_tr (ha _ _ _ _ _ ea) (hb _ _ _ _ _ h)
        · cases hz; exact ha _ _ _ _ _ ea
      | succ g => exact hb _ _ _ _ _ h
    · cases h
      exact Px_rf
    · obtain ⟨n1, s1, ea, h⟩ := xb_e h
      split at h
      · obtain ⟨n2, s2, eb, h⟩ := xb_e h
        split at h
        · obtain ⟨-, h⟩ := if_some h
          cases h
          exact Px_tr (ha _ _ _ _ _ ea) (Px_tr (hb _ _ _ _ _ eb) (Px_put _ _ _ _))
        · cases h
      · cases h
    · split at h
      · obtain ⟨-, h⟩ := if_some h
        cases h
        exact Px_rf
      · cases h
    · cases h
      exact Px_rf
    · obtain ⟨n1, s1, ea, h⟩ := xb_e h
      obtain ⟨vs, s2, eb, h⟩ := xa_e h
      cases h
      exact Px_tr (ha _ _ _ _ _ ea) (hb _ _ _ _ _ eb)
    · obtain ⟨vs, s1, eb, h⟩ := xa_e h
      split at h
      · split at h
        · rename_i h2 hz
          cases h
          unfold xcopy at hz
          obtain ⟨-, hz⟩ := if_some hz
          cases hz
          exact Px_tr (hb _ _ _ _ _ eb) ⟨hx_row _ _ _, rfl⟩
        · cases h
      · cases h
    · obtain ⟨vs, s1, eb, h⟩ := xa_e h
      split at h
      · split at h
        · rename_i h2 hz
          cases h
          unfold xcopyB at hz
          obtain ⟨-, hz⟩ := if_some hz
          cases hz
          exact Px_tr (hb _ _ _ _ _ eb) ⟨hx_row _ _ _, rfl⟩
        · cases h
      · cases h
    · cases h
  | .nil, _, _, _, _, _, h => by cases h
  | .line, _, _, _, _, _, h => by cases h
  | .align _, _, _, _, _, _, h => by cases h
  | .text _, _, _, _, _, _, h => by cases h
  | .nest _ _, _, _, _, _, _, h => by cases h
  | .append _ _, _, _, _, _, _, h => by cases h
  | .tag _ .nil, _, _, _, _, _, h => by cases h
  | .tag _ .line, _, _, _, _, _, h => by cases h
  | .tag _ (.align _), _, _, _, _, _, h => by cases h
  | .tag _ (.text _), _, _, _, _, _, h => by cases h
  | .tag _ (.append _ _), _, _, _, _, _, h => by cases h
  | .tag _ (.group _ _), _, _, _, _, _, h => by cases h
  | .tag _ (.tag _ _), _, _, _, _, _, h => by cases h
  | .tag _ (.nest _ .nil), _, _, _, _, _, h => by cases h
  | .tag _ (.nest _ .line), _, _, _, _, _, h => by cases h
  | .tag _ (.nest _ (.align _)), _, _, _, _, _, h => by cases h
  | .tag _ (.nest _ (.text _)), _, _, _, _, _, h => by cases h
  | .tag _ (.nest _ (.nest _ _)), _, _, _, _, _, h => by cases h
  | .tag _ (.nest _ (.group _ _)), _, _, _, _, _, h => by cases h
  | .tag _ (.nest _ (.tag _ _)), _, _, _, _, _, h => by cases h
  | .group .nil _, _, _, _, _, _, h => by cases h
  | .group .line _, _, _, _, _, _, h => by cases h
  | .group (.align _) _, _, _, _, _, _, h => by cases h
  | .group (.text _) _, _, _, _, _, _, h => by cases h
  | .group (.nest _ _) _, _, _, _, _, _, h => by cases h
  | .group (.append _ _) _, _, _, _, _, _, h => by cases h
  | .group (.group _ _) _, _, _, _, _, _, h => by cases h
  | .group (.tag _ .nil) _, _, _, _, _, _, h => by cases h
  | .group (.tag _ .line) _, _, _, _, _, _, h => by cases h
  | .group (.tag _ (.align _)) _, _, _, _, _, _, h => by cases h
  | .group (.tag _ (.text _)) _, _, _, _, _, _, h => by cases h
  | .group (.tag _ (.append _ _)) _, _, _, _, _, _, h => by cases h
  | .group (.tag _ (.group _ _)) _, _, _, _, _, _, h => by cases h
  | .group (.tag _ (.tag _ _)) _, _, _, _, _, _, h => by cases h
  | .group (.tag _ (.nest _ .nil)) _, _, _, _, _, _, h => by cases h
  | .group (.tag _ (.nest _ .line)) _, _, _, _, _, _, h => by cases h
  | .group (.tag _ (.nest _ (.align _))) _, _, _, _, _, _, h => by cases h
  | .group (.tag _ (.nest _ (.text _))) _, _, _, _, _, _, h => by cases h
  | .group (.tag _ (.nest _ (.nest _ _))) _, _, _, _, _, _, h => by cases h
  | .group (.tag _ (.nest _ (.group _ _))) _, _, _, _, _, _, h => by cases h
  | .group (.tag _ (.nest _ (.tag _ _))) _, _, _, _, _, _, h => by cases h
  | .group (.tag _ (.nest _ (.append _ .nil))) _, _, _, _, _, _, h => by cases h
  | .group (.tag _ (.nest _ (.append _ .line))) _, _, _, _, _, _, h => by cases h
  | .group (.tag _ (.nest _ (.append _ (.align _)))) _, _, _, _, _, _, h => by cases h
  | .group (.tag _ (.nest _ (.append _ (.text _)))) _, _, _, _, _, _, h => by cases h
  | .group (.tag _ (.nest _ (.append _ (.nest _ _)))) _, _, _, _, _, _, h => by cases h
  | .group (.tag _ (.nest _ (.append _ (.group _ _)))) _, _, _, _, _, _, h => by cases h
  | .group (.tag _ (.nest _ (.append _ (.tag _ _)))) _, _, _, _, _, _, h => by cases h
