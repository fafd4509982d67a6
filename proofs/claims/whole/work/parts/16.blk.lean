/-! ===== blocks: as 'run', but a call's answer is left to 'ev' ===== -/
noncomputable def xblkk (k : xSt → Option xR) (s : xSt) : Option xR := match xstep s with
  | none => none
  | some (.inl q) => bif q.1 then k q.2.1 else (match q.2.2 with
    | none => none
    | some s2 => k s2)
  | some (.inr (.inl q)) => bif q.1 then some q.2 else none
  | some (.inr (.inr (.inl q))) => bif q.1 then (ev q.2.1).bind (fun r => ev (q.2.2.1, q.2.2.2.1, q.2.2.2.2.1, r.1.toList ++ q.2.2.2.2.2, r.2)) else none
  | some (.inr (.inr (.inr q))) => q.2.1.foldr (fun c k2 => if q.1 = c.1 then k c.2 else k2) (k q.2.2)
noncomputable def blk : Nat → Bool → xSt → Option xR
  | 0, _, s => ev s
  | n + 1, go, s => match go with
    | true => xblkk (blk n false) s
    | false => match xhead s.1 s.2.1 with
      | some ds => ev (s.1, s.2.1, xkill ds s.2.2.1, s.2.2.2.1, s.2.2.2.2)
      | none => xblkk (blk n false) s
theorem xblkk_ev (k : xSt → Option xR) (ih : ∀ s, k s = ev s) (s : xSt) : xblkk k s = ev s := by
  have hk : k = ev := funext ih
  subst hk
  rw [← xrunk_ev ev (fun _ => rfl) s]
  rfl
theorem blk_ev : ∀ (n : Nat) (go : Bool) (s : xSt), blk n go s = ev s
  | 0, _, _ => rfl
  | n + 1, go, s => by
    have hs := xblkk_ev (blk n false) (blk_ev n false) s
    obtain ⟨mi, pc, ls, st, w⟩ := s
    cases go with
    | true => exact hs
    | false =>
      show (match xhead mi pc with | some ds => ev (mi, pc, xkill ds ls, st, w) | none => xblkk (blk n false) (mi, pc, ls, st, w)) = _
      cases hh : xhead mi pc with
      | none => exact hs
      | some ds => exact ev_kill hh
theorem blk_is {s : xSt} {r : Option xR} (n : Nat) (h : blk n true s = r) : ev s = r := (blk_ev n true s).symm.trans h
section STEP
variable {mi pc : Nat} {ls st : List Value} {w : xW} {en : xE} {s1 s2 d : xSt} {cc : Bool} {A B : Option xR}
theorem ev_of (hf : xfind (xnth xTs mi) pc = some en) : ev (mi, pc, ls, st, w) = xrunk ev (mi, pc, ls, st, w) ∧ xstep (mi, pc, ls, st, w) = xexe en mi pc (xkill en.2.2.2.2.2.2.2.2 ls) st w := by
  refine ⟨(xrunk_ev ev (fun _ => rfl) _).symm, ?_⟩
  show (match xfind (xnth xTs mi) pc with | none => none | some e => xexe e mi pc (xkill e.2.2.2.2.2.2.2.2 ls) st w) = _
  rw [hf]
theorem ev_gd (hf : xfind (xnth xTs mi) pc = some en) (h : xexe en mi pc (xkill en.2.2.2.2.2.2.2.2 ls) st w = some (.inl (cc, s1, none))) (k : ev s1 = A) : ev (mi, pc, ls, st, w) = (bif cc then A else none) := by
  obtain ⟨h1, h2⟩ := ev_of (ls := ls) (st := st) (w := w) hf
  rw [h1]
  unfold xrunk
  rw [h2, h, ← k]
theorem ev_nx (hf : xfind (xnth xTs mi) pc = some en) (h : xexe en mi pc (xkill en.2.2.2.2.2.2.2.2 ls) st w = some (.inl (true, s1, none))) (k : ev s1 = A) : ev (mi, pc, ls, st, w) = A := ev_gd hf h k
theorem ev_br (hf : xfind (xnth xTs mi) pc = some en) (h : xexe en mi pc (xkill en.2.2.2.2.2.2.2.2 ls) st w = some (.inl (cc, s1, some s2))) (k : ev s1 = A) (k2 : ev s2 = B) : ev (mi, pc, ls, st, w) = (bif cc then A else B) := by
  obtain ⟨h1, h2⟩ := ev_of (ls := ls) (st := st) (w := w) hf
  rw [h1]
  unfold xrunk
  rw [h2, h, ← k, ← k2]
theorem ev_bt (hf : xfind (xnth xTs mi) pc = some en) (h : xexe en mi pc (xkill en.2.2.2.2.2.2.2.2 ls) st w = some (.inl (cc, s1, some s2))) (hc : cc = true) (k : ev s1 = A) : ev (mi, pc, ls, st, w) = A := by
  rw [ev_br (B := ev s2) hf h k rfl, hc]; rfl
theorem ev_bf (hf : xfind (xnth xTs mi) pc = some en) (h : xexe en mi pc (xkill en.2.2.2.2.2.2.2.2 ls) st w = some (.inl (cc, s1, some s2))) (hc : cc = false) (k : ev s2 = A) : ev (mi, pc, ls, st, w) = A := by
  rw [ev_br (A := ev s1) hf h rfl k, hc]; rfl
theorem ev_rt {r : xR} (hf : xfind (xnth xTs mi) pc = some en) (h : xexe en mi pc (xkill en.2.2.2.2.2.2.2.2 ls) st w = some (.inr (.inl (cc, r)))) : ev (mi, pc, ls, st, w) = (bif cc then some r else none) := by
  obtain ⟨h1, h2⟩ := ev_of (ls := ls) (st := st) (w := w) hf
  rw [h1]
  unfold xrunk
  rw [h2, h]
theorem ev_r1 {r : xR} (hf : xfind (xnth xTs mi) pc = some en) (h : xexe en mi pc (xkill en.2.2.2.2.2.2.2.2 ls) st w = some (.inr (.inl (true, r)))) : ev (mi, pc, ls, st, w) = some r := ev_rt hf h
theorem ev_ca {k : Nat × Nat × List Value × List Value} (hf : xfind (xnth xTs mi) pc = some en) (h : xexe en mi pc (xkill en.2.2.2.2.2.2.2.2 ls) st w = some (.inr (.inr (.inl (cc, s1, k))))) : ev (mi, pc, ls, st, w) = (bif cc then (ev s1).bind (fun r => ev (k.1, k.2.1, k.2.2.1, r.1.toList ++ k.2.2.2, r.2)) else none) := by
  obtain ⟨h1, h2⟩ := ev_of (ls := ls) (st := st) (w := w) hf
  rw [h1]
  unfold xrunk
  rw [h2, h]
theorem ev_c1 {k : Nat × Nat × List Value × List Value} (hf : xfind (xnth xTs mi) pc = some en) (h : xexe en mi pc (xkill en.2.2.2.2.2.2.2.2 ls) st w = some (.inr (.inr (.inl (true, s1, k))))) : ev (mi, pc, ls, st, w) = (ev s1).bind (fun r => ev (k.1, k.2.1, k.2.2.1, r.1.toList ++ k.2.2.2, r.2)) := ev_ca hf h
theorem ev_sw {a : Int32} {cs : List (Int32 × xSt)} (hf : xfind (xnth xTs mi) pc = some en) (h : xexe en mi pc (xkill en.2.2.2.2.2.2.2.2 ls) st w = some (.inr (.inr (.inr (a, cs, d))))) (k : ev (xpick a cs d) = A) : ev (mi, pc, ls, st, w) = A := by
  rw [ev_eq]
  unfold evS
  obtain ⟨h1, h2⟩ := ev_of (ls := ls) (st := st) (w := w) hf
  rw [h2, h]
  exact k
theorem ev_swc {a : Int32} {q : Int32 × xSt} {cs : List (Int32 × xSt)} (k1 : ev q.2 = A) (k2 : ev (xpick a cs d) = B) : ev (xpick a (q :: cs) d) = if a = q.1 then A else B := by
  show ev (if a = q.1 then q.2 else xpick a cs d) = _
  split
  · exact k1
  · exact k2
end STEP
