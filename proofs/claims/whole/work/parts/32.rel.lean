/-! ===== the whole state: what class and reference both hold ===== -/
def scC (f : Nat → Int32) (T : Sc) : Prop := f 0 = nI (sH T) ∧ f 1 = sN T ∧ (∀ c, c < 20 → f (2 + c) = nI (sK T c) ∧ f (22 + c) = sQ T c) ∧ ∀ a, a < 5 → f (42 + a) = nI (sX T a) ∧ f (47 + a) = nI (sO T a) ∧ f (52 + a) = nI (sP T a) ∧ f (57 + a) = sB T a
def scR (f : Nat → Int32) (T : Sc) : Prop := f 20 = nI (sH T) ∧ f 61 = sN T ∧ (∀ c, c < 20 → f (0 + c) = nI (sK T c) ∧ f (21 + c) = sQ T c) ∧ ∀ a, a < 5 → f (41 + a) = nI (sX T a) ∧ f (46 + a) = nI (sO T a) ∧ f (51 + a) = nI (sP T a) ∧ f (56 + a) = sB T a
theorem scC_iff {M : Mem} {r : Nat} {T : Sc} : sceneC M r T ↔ scC (M r) T := Iff.rfl
theorem scR_iff {M : Mem} {r : Nat} {T : Sc} : sceneR M r T ↔ scR (M r) T := Iff.rfl
theorem scC_cong {f g : Nat → Int32} {T : Sc} (h : ∀ k, k < 62 → g k = f k) (hf : scC f T) : scC g T := by
  unfold scC at hf ⊢
  refine ⟨by rw [h 0 (by omega)]; exact hf.1, by rw [h 1 (by omega)]; exact hf.2.1, fun c hc => ?_, fun a ha => ?_⟩
  · rw [h _ (by omega), h _ (by omega)]; exact hf.2.2.1 c hc
  · rw [h _ (by omega), h _ (by omega), h _ (by omega), h _ (by omega)]; exact hf.2.2.2 a ha
theorem scR_cong {f g : Nat → Int32} {T : Sc} (h : ∀ k, k < 62 → g k = f k) (hf : scR f T) : scR g T := by
  unfold scR at hf ⊢
  refine ⟨by rw [h 20 (by omega)]; exact hf.1, by rw [h 61 (by omega)]; exact hf.2.1, fun c hc => ?_, fun a ha => ?_⟩
  · rw [h _ (by omega), h _ (by omega)]; exact hf.2.2.1 c hc
  · rw [h _ (by omega), h _ (by omega), h _ (by omega), h _ (by omega)]; exact hf.2.2.2 a ha
/-- house, scene, text's length, text, fault, seed, history, images, seen, book -/
abbrev Gh : Type := Ho × Sc × Nat × (Nat → Nat) × Int32 × Nat × List Sc × (Nat → Option (Sc × Nat)) × List (Nat × Bool) × List (Nat × Nat)
abbrev gH (g : Gh) : Ho := g.1
abbrev gT (g : Gh) : Sc := g.2.1
abbrev gn (g : Gh) : Nat := g.2.2.1
abbrev gf (g : Gh) : Nat → Nat := g.2.2.2.1
abbrev gfa (g : Gh) : Int32 := g.2.2.2.2.1
abbrev gd (g : Gh) : Nat := g.2.2.2.2.2.1
abbrev ghi (g : Gh) : List Sc := g.2.2.2.2.2.2.1
abbrev gim (g : Gh) : Nat → Option (Sc × Nat) := g.2.2.2.2.2.2.2.1
abbrev gsn (g : Gh) : List (Nat × Bool) := g.2.2.2.2.2.2.2.2.1
abbrev gbk (g : Gh) : List (Nat × Nat) := g.2.2.2.2.2.2.2.2.2
def textC (M : Mem) (n : Nat) (f : Nat → Nat) : Prop := M 11 2 = nI n ∧ ∀ i, i < n → M 19 i = nI (f i)
def textR (M : Mem) (n : Nat) (f : Nat → Nat) : Prop := M 40 10 = nI n ∧ ∀ i, i < n → M 48 i = nI (f i)
def histC (M : Mem) (hi : List Sc) : Prop := M 20 0 = nI hi.length ∧ ∃ nw, nw < 20 ∧ M 20 2 = nI nw ∧ ∀ (j : Nat) (S : Sc), hi[j]? = some S → scC (fun k => M 21 (62 * ((nw + 20 - j) % 20) + k)) S
def histR (M : Mem) (hi : List Sc) : Prop := M 40 5 = nI hi.length ∧ ∀ (j : Nat) (S : Sc), hi[j]? = some S → scR (fun k => M 45 (62 * (hi.length - 1 - j) + k)) S
def imgC (M : Mem) (im : Nat → Option (Sc × Nat)) : Prop := M 22 2 = nI ((if (im 0).isSome then 1 else 0) + (if (im 1).isSome then 2 else 0)) ∧ ∀ (i : Nat) (S : Sc) (d : Nat), i < 2 → im i = some (S, d) → scC (fun k => M 23 (62 * i + k)) S ∧ M 24 i = nI d
def imgR (M : Mem) (im : Nat → Option (Sc × Nat)) : Prop := (∀ i, i < 2 → M 47 i = nI (im i).isSome.toNat) ∧ ∀ (i : Nat) (S : Sc) (d : Nat), i < 2 → im i = some (S, d) → scR (fun k => M 46 (63 * i + k)) S ∧ M 46 (63 * i + 62) = nI d
def seenC (M : Mem) (l : List (Nat × Bool)) : Prop := M 25 0 = nI l.length ∧ ∀ (j : Nat) (q : Nat × Bool), l[j]? = some q → M 26 j = nI q.1 ∧ M 27 j = nI q.2.toNat
def seenR (M : Mem) (l : List (Nat × Bool)) : Prop := M 40 13 = nI l.length ∧ ∀ (j : Nat) (q : Nat × Bool), l[j]? = some q → M 49 (2 * j) = nI q.1 ∧ M 49 (2 * j + 1) = nI q.2.toNat
def bookC (M : Mem) (l : List (Nat × Nat)) : Prop := M 25 1 = nI l.length ∧ ∀ (j : Nat) (q : Nat × Nat), l[j]? = some q → M 28 j = nI q.1 ∧ M 29 j = nI q.2
def bookR (M : Mem) (l : List (Nat × Nat)) : Prop := M 40 15 = nI l.length ∧ ∀ (j : Nat) (q : Nat × Nat), l[j]? = some q → M 50 (2 * j) = nI q.1 ∧ M 50 (2 * j + 1) = nI q.2
def gOk (g : Gh) : Prop := hoOk (gH g) ∧ scOk (gH g) (gT g) ∧ gn g ≤ 240 ∧ (∀ i, i < gn g → gf g i < 256) ∧ gd g < 2 ^ 31 ∧ ((ghi g).length ≤ 20 ∧ ∀ S ∈ ghi g, scOk (gH g) S) ∧ (∀ i S d, i < 2 → gim g i = some (S, d) → scOk (gH g) S ∧ d < 2 ^ 31) ∧ ((gsn g).length ≤ 6 ∧ ∀ q ∈ gsn g, q.1 < hA (gH g)) ∧ ((gbk g).length ≤ 15 ∧ ∀ q ∈ gbk g, q.1 < hA (gH g) ∧ q.2 ≤ 9)
def RelC (M : Mem) (g : Gh) : Prop := houseC M 2 3 4 5 6 (gH g) ∧ sceneC M 8 (gT g) ∧ textC M (gn g) (gf g) ∧ M 1 9 = gfa g ∧ M 1 10 = nI (gd g) ∧ histC M (ghi g) ∧ imgC M (gim g) ∧ seenC M (gsn g) ∧ bookC M (gbk g)
def RelR (M : Mem) (J : Nat → Nat → Int64) (g : Gh) : Prop := houseR M 41 (gH g) ∧ sceneR M 43 (gT g) ∧ textR M (gn g) (gf g) ∧ M 40 11 = gfa g ∧ J 40 8 = lN (gd g) ∧ histR M (ghi g) ∧ imgR M (gim g) ∧ seenR M (gsn g) ∧ bookR M (gbk g)
/-- the class's calls leave the script and the reference's cells, the reference's leave the class's -/
def onlyC (M M' : Mem) : Prop := ∀ a, a = 0 ∨ 40 ≤ a → M' a = M a
def onlyR (M M' : Mem) : Prop := ∀ a, a < 40 → M' a = M a
theorem onlyC_rf {M : Mem} : onlyC M M := fun _ _ => rfl
theorem onlyR_rf {M : Mem} : onlyR M M := fun _ _ => rfl
theorem onlyC_tr {M M' M'' : Mem} (h : onlyC M M') (h2 : onlyC M' M'') : onlyC M M'' := fun a ha => (h2 a ha).trans (h a ha)
theorem onlyR_tr {M M' M'' : Mem} (h : onlyR M M') (h2 : onlyR M' M'') : onlyR M M'' := fun a ha => (h2 a ha).trans (h a ha)
theorem onlyC_of {M M' : Mem} {r : Nat} (h : only M M' r) (h0 : r ≠ 0) (h40 : r < 40) : onlyC M M' := fun a ha => h a (by omega)
theorem onlyR_of {M M' : Mem} {r : Nat} (h : only M M' r) (h40 : 40 ≤ r) : onlyR M M' := fun a ha => h a (by omega)
theorem RelC_agree {M M' : Mem} {g : Gh} (h : RelC M g) (he : ∀ a, a ∈ [1, 2, 3, 4, 5, 6, 8, 11, 19, 20, 21, 22, 23, 24, 25, 26, 27, 28, 29] → M' a = M a) : RelC M' g := by
  have e := fun a (ha : a ∈ [1, 2, 3, 4, 5, 6, 8, 11, 19, 20, 21, 22, 23, 24, 25, 26, 27, 28, 29]) => he a ha
  unfold RelC houseC sceneC textC histC imgC seenC bookC at h ⊢
  simp only [e 1 (by decide), e 2 (by decide), e 3 (by decide), e 4 (by decide), e 5 (by decide), e 6 (by decide), e 8 (by decide), e 11 (by decide), e 19 (by decide), e 20 (by decide), e 21 (by decide), e 22 (by decide), e 23 (by decide), e 24 (by decide), e 25 (by decide), e 26 (by decide), e 27 (by decide), e 28 (by decide), e 29 (by decide)]
  exact h
theorem RelC_R {M M' : Mem} {g : Gh} (h : RelC M g) (he : onlyR M M') : RelC M' g := RelC_agree h (fun a ha => he a (by simp at ha; omega))
theorem RelR_agree {M M' : Mem} {J : Nat → Nat → Int64} {g : Gh} (h : RelR M J g) (he : ∀ a, a ∈ [40, 41, 43, 45, 46, 47, 48, 49, 50] → M' a = M a) : RelR M' J g := by
  have e := fun a (ha : a ∈ [40, 41, 43, 45, 46, 47, 48, 49, 50]) => he a ha
  unfold RelR houseR sceneR textR histR imgR seenR bookR at h ⊢
  simp only [e 40 (by decide), e 41 (by decide), e 43 (by decide), e 45 (by decide), e 46 (by decide), e 47 (by decide), e 48 (by decide), e 49 (by decide), e 50 (by decide)]
  exact h
theorem RelR_C {M M' : Mem} {J : Nat → Nat → Int64} {g : Gh} (h : RelR M J g) (he : onlyC M M') : RelR M' J g := RelR_agree h (fun a ha => he a (by simp at ha; omega))
/-- an answer of the class, and of the reference, at a state -/
def ansC (L m : Nat) (args : List Value) (g : Gh) (v : Int32) (g' : Gh) : Prop := ∀ (M : Mem) (J : Nat → Nat → Int64), RelC M g → ∃ M', ev (m, 0, args, [], (xSH L, M, J)) = some (some (.int v), (xSH L, M', J)) ∧ RelC M' g' ∧ onlyC M M'
def ansR (L m : Nat) (args : List Value) (g : Gh) (v : Int32) (g' : Gh) : Prop := ∀ (M : Mem) (J : Nat → Nat → Int64), RelR M J g → ∃ M' J', ev (m, 0, args, [], (xSH L, M, J)) = some (some (.int v), (xSH L, M', J')) ∧ RelR M' J' g' ∧ onlyR M M'
/-- an operation of the law: both answer alike, and what they hold goes on alike -/
def opOk (L : Nat) (mC mR : Nat) (aC aR : List Value) (g : Gh) : Prop := ∃ (v : Int32) (g' : Gh), gOk g' ∧ ansC L mC aC g v g' ∧ ansR L mR aR g v g'
/-- a read -/
theorem ansC_rd {L m : Nat} {args : List Value} {g : Gh} {v : Int32} (h : ∀ (M : Mem) (J : Nat → Nat → Int64), RelC M g → ev (m, 0, args, [], (xSH L, M, J)) = some (some (.int v), (xSH L, M, J))) : ansC L m args g v g := fun M J hM => ⟨M, h M J hM, hM, onlyC_rf⟩
theorem ansR_rd {L m : Nat} {args : List Value} {g : Gh} {v : Int32} (h : ∀ (M : Mem) (J : Nat → Nat → Int64), RelR M J g → ev (m, 0, args, [], (xSH L, M, J)) = some (some (.int v), (xSH L, M, J))) : ansR L m args g v g := fun M J hM => ⟨M, J, h M J hM, hM, onlyR_rf⟩
