/-! the pure side: answers that may be wanting, loops, guards -/
def Ok {α : Type} (o : Option α) (Q : α → Prop) : Prop := ∃ a, o = some a ∧ Q a
def Ok2 {α : Type} (o : Option (α × aD)) (K : α → aD → Prop) : Prop := ∃ y D, o = some (y, D) ∧ K y D
theorem Ok.dn {α : Type} {a : α} {Q : α → Prop} (h : Ok (some a) Q) : Q a := by obtain ⟨b, e, h⟩ := h; cases e; exact h
theorem Ok.bind {α β : Type} {o : Option α} {k : α → Option β} {Q : β → Prop} (h : Ok (o.bind k) Q) : Ok o (fun a => Ok (k a) Q) := by
  obtain ⟨b, e, h⟩ := h
  cases o with
  | none => cases e
  | some a => exact ⟨a, rfl, b, e, h⟩
theorem Ok2.ok {α : Type} {o : Option (α × aD)} {K : α → aD → Prop} (h : Ok2 o K) : Ok o (fun r => K r.1 r.2) := by obtain ⟨y, D, e, h⟩ := h; exact ⟨(y, D), e, h⟩
theorem Ok2.of {α : Type} {o : Option (α × aD)} {K : α → aD → Prop} (h : Ok o (fun r => K r.1 r.2)) : Ok2 o K := by obtain ⟨⟨y, D⟩, e, h⟩ := h; exact ⟨y, D, e, h⟩
def aGd {α : Type} (b : Bool) (o : Option α) : Option α := match b with
  | true => o
  | false => none
theorem Ok.gd {α : Type} {b : Bool} {o : Option α} {Q : α → Prop} (h : Ok (aGd b o) Q) : b = true ∧ Ok o Q := by
  cases b with
  | true => exact ⟨rfl, h⟩
  | false => obtain ⟨a, e, -⟩ := h; cases e
def aLet {α β : Type} (d : α) (k : α → Option β) : Option β := k d
theorem Ok.let_ {α β : Type} {d : α} {k : α → Option β} {Q : β → Prop} (h : Ok (aLet d k) Q) : ∃ z, z = d ∧ Ok (k z) Q := ⟨d, rfl, h⟩
def aBi {α β : Type} (o : Option (α × aD)) (k : α → aD → Option β) : Option β := o.bind (fun r => k r.1 r.2)
theorem Ok.bi {α β : Type} {o : Option (α × aD)} {k : α → aD → Option β} {Q : β → Prop} (h : Ok (aBi o k) Q) : Ok2 o (fun y D => Ok (k y D) Q) := Ok2.of (Ok.bind h)
def aTry {β : Type} (o : Option ((String ⊕ Int32) × aD)) (k : Int32 → aD → Option ((String ⊕ β) × aD)) : Option ((String ⊕ β) × aD) := o.bind (fun r => match r.1 with
  | .inl E => some (.inl E, r.2)
  | .inr y => k y r.2)
theorem Ok.try_ {β : Type} {o : Option ((String ⊕ Int32) × aD)} {k : Int32 → aD → Option ((String ⊕ β) × aD)} {K : (String ⊕ β) → aD → Prop} (h : Ok (aTry o k) (fun r => K r.1 r.2)) : Ok2 o (fun q D => (∀ E, q = .inl E → K (.inl E) D) ∧ ∀ y, q = .inr y → Ok (k y D) (fun r => K r.1 r.2)) := by
  obtain ⟨⟨q, D⟩, e, h⟩ := Ok.bind h
  refine ⟨q, D, e, fun E hE => ?_, fun y hy => ?_⟩
  · subst hE
    have h' : Ok (some ((Sum.inl E : String ⊕ β), D)) (fun r => K r.1 r.2) := h
    exact (Ok.dn h' :)
  · subst hy; exact h
theorem Ok.ift {α : Type} {c : Prop} [Decidable c] {a b : Option α} {Q : α → Prop} (h : Ok (if c then a else b) Q) (hc : c) : Ok a Q := by rwa [if_pos hc] at h
theorem Ok.iff {α : Type} {c : Prop} [Decidable c] {a b : Option α} {Q : α → Prop} (h : Ok (if c then a else b) Q) (hc : ¬ c) : Ok b Q := by rwa [if_neg hc] at h
theorem Ok.iffn {α : Type} {x y : Int32} {a b : Option α} {Q : α → Prop} (h : Ok (if x ≠ y then a else b) Q) (hc : x = y) : Ok b Q := by rwa [if_neg (fun z => z hc)] at h
def aIt {σ ρ : Type} (body : σ → Option (σ ⊕ ρ)) : Nat → σ → Option ρ
  | 0, _ => none
  | n + 1, s => match body s with
    | none => none
    | some (.inl s') => aIt body n s'
    | some (.inr r) => some r
theorem Ok.el {α β γ : Type} {f : α → Option γ} {g : β → Option γ} {x : α} {K : γ → Prop} (h : Ok (Sum.elim f g (.inl x)) K) : Ok (f x) K := h
theorem Ok.er {α β γ : Type} {f : α → Option γ} {g : β → Option γ} {x : β} {K : γ → Prop} (h : Ok (Sum.elim f g (.inr x)) K) : Ok (g x) K := h
def aN : Nat := 1000000000
def aLp {σ ρ : Type} (body : σ → Option (σ ⊕ ρ)) (s : σ) : Option ρ := aIt body aN s
theorem Ok.lp {σ ρ : Type} {body : σ → Option (σ ⊕ ρ)} {P : σ → Prop} {K : ρ → Prop} (hs : ∀ (s : σ) (Kb : σ ⊕ ρ → Prop), (∀ s', Kb (.inl s') → P s') → (∀ r, Kb (.inr r) → K r) → Ok (body s) Kb → P s) : ∀ s, Ok (aLp body s) K → P s := by
  have key : ∀ (n : Nat) (s : σ), Ok (aIt body n s) K → P s := by
    intro n
    induction n with
    | zero => intro s h; obtain ⟨a, e, -⟩ := h; cases e
    | succ n ih =>
      intro s h
      obtain ⟨a, e, h⟩ := h
      rw [aIt] at e
      refine hs s (fun o => match o with | .inl s' => Ok (aIt body n s') K | .inr r => K r) (fun s' h' => ih s' h') (fun r h' => h') ?_
      cases hb : body s with
      | none => rw [hb] at e; cases e
      | some o =>
        rw [hb] at e
        cases o with
        | inl s' => exact ⟨_, rfl, a, e, h⟩
        | inr r => cases e; exact ⟨_, rfl, h⟩
  exact fun s => key _ s
def aIn (i : Int32) (n : Nat) : Bool := !(decide (i < 0) || decide (n ≤ i.toNatClampNeg))
theorem aIn_in {i : Int32} {n : Nat} (h : aIn i n = true) : vp_in i n := by
  simp only [aIn, Bool.not_eq_true', Bool.or_eq_false_iff, decide_eq_false_iff_not] at h
  exact fun q => q.elim h.1 h.2
theorem aIn_lt {i : Int32} {n : Nat} (h : aIn i n = true) : i.toNatClampNeg < n := Nat.not_le.mp fun q => aIn_in h (Or.inr q)
def aNz (y : Int32) : Bool := !(decide (y = 0))
theorem aNz_ne {y : Int32} (h : aNz y = true) : ¬ y = 0 := by simpa [aNz] using h
def aNzL (y : Int64) : Bool := !(decide (y = 0))
theorem aNzL_ne {y : Int64} (h : aNzL y = true) : ¬ y = 0 := by simpa [aNzL] using h
def aZ (y : Int32) : Bool := decide (y = 0) || decide (y = 1)
theorem aZ_or {y : Int32} (h : aZ y = true) : y = 0 ∨ y = 1 := by simpa [aZ] using h
def aCg (sp dp n : Int32) (n0 n1 : Nat) : Bool := !(decide (sp < 0)) && (!(decide (dp < 0)) && (!(decide (n < 0)) && (decide (sp.toNatClampNeg + n.toNatClampNeg ≤ n0) && decide (dp.toNatClampNeg + n.toNatClampNeg ≤ n1))))
theorem aCg_ok {sp dp n : Int32} {n0 n1 : Nat} (h : aCg sp dp n n0 n1 = true) : ¬ sp < 0 ∧ ¬ dp < 0 ∧ ¬ n < 0 ∧ sp.toNatClampNeg + n.toNatClampNeg ≤ n0 ∧ dp.toNatClampNeg + n.toNatClampNeg ≤ n1 := by
  simp only [aCg, Bool.and_eq_true, Bool.not_eq_true', decide_eq_false_iff_not, decide_eq_true_eq] at h
  exact ⟨h.1, h.2.1, h.2.2.1, h.2.2.2.1, h.2.2.2.2⟩
def aCp (D : aD) (k0 k1 : Nat) (sp dp n : Int32) : aD := pA D k1 (va_cpy (D.1 k0) (D.1 k1) sp.toNatClampNeg dp.toNatClampNeg n.toNatClampNeg)
theorem sw_out {x : Int32} {lo hi : Int} (h : ∀ n : Int, lo ≤ n → n ≤ hi → x.toInt ≠ n) : x.toInt < lo ∨ hi < x.toInt := by
  rcases Int.lt_or_le x.toInt lo with q | q
  · exact Or.inl q
  · rcases Int.lt_or_le hi x.toInt with r | r
    · exact Or.inr r
    · exact absurd rfl (h _ q r)
theorem sw_at {x : Int32} {k : Int32} {n : Int} (hk : k.toInt = n) (h : ¬ x = k) : x.toInt ≠ n := fun e => h (Int32.toInt_inj.mp (e.trans hk.symm))
def aRm (d mc ms : Nat) : Room := { frames := d, cells := mc, slots := ms, locals := 64 * d }
def aQi (shp : List aSh) (K : Int32 → aD → Prop) : aQ := fun o shp' D' => ∃ r, o = .inl (some (.int r)) ∧ shp' = shp ∧ K r D'
def aQl (shp : List aSh) (K : Int64 → aD → Prop) : aQ := fun o shp' D' => ∃ r, o = .inl (some (.long r)) ∧ shp' = shp ∧ K r D'
def aQv (shp : List aSh) (K : aD → Prop) : aQ := fun o shp' D' => o = .inl none ∧ shp' = shp ∧ K D'
def aQxi (shp : List aSh) (K : (String ⊕ Int32) → aD → Prop) : aQ := fun o shp' D' => shp' = shp ∧ ((∃ r, o = .inl (some (.int r)) ∧ K (.inr r) D') ∨ ∃ E, o = .inr E ∧ K (.inl E) D')
def aQxv (shp : List aSh) (K : (String ⊕ Int32) → aD → Prop) : aQ := fun o shp' D' => shp' = shp ∧ ((o = .inl none ∧ K (.inr 0) D') ∨ ∃ E, o = .inr E ∧ K (.inl E) D')
def aSubL : List (Option Value) → List (Option Value) → Prop
  | [], _ => True
  | none :: l', _ :: l => aSubL l' l
  | some v :: l', o :: l => o = some v ∧ aSubL l' l
  | _ :: _, [] => False
theorem aSubL_at : ∀ (l' l : List (Option Value)), aSubL l' l → ∀ (i : Nat) (v : Value), l'[i]? = some (some v) → l[i]? = some (some v)
  | [], _, _, i, v, h => by simp at h
  | none :: l', _ :: l, hs, 0, v, h => by simp at h
  | none :: l', _ :: l, hs, i + 1, v, h => by
    rw [List.getElem?_cons_succ] at h ⊢
    exact aSubL_at l' l hs i v h
  | some w :: l', o :: l, hs, 0, v, h => by
    rw [List.getElem?_cons_zero] at h ⊢
    cases h
    exact congrArg some hs.1
  | some w :: l', o :: l, hs, i + 1, v, h => by
    rw [List.getElem?_cons_succ] at h ⊢
    exact aSubL_at l' l hs.2 i v h
section AWT
variable {G : aG} {M : aM} {fr : Option Nat} {d mc ms kc ks pc n : Nat} {al : List (Option Value)} {st : List Value} {shp : List aSh} {D : aD} {Q : aQ}
theorem aw_le' {R : Room} {al' : List (Option Value)} (K : AW G R M fr kc ks pc al' st shp D Q) (hl : aSubL al' al) : AW G R M fr kc ks pc al st shp D Q := aw_le (aSubL_at _ _ hl) K
theorem aw_wid {R : Room} {kc' ks' : Nat} (h1 : kc ≤ kc') (h2 : ks ≤ ks') (K : AW G R M fr kc' ks' pc al st shp D Q) : AW G R M fr kc ks pc al st shp D Q := by
  intro p e s m args below meth c H locs ls F hH hS hl
  exact W.widen h1 h2 (K p e s m args below meth c H locs ls F hH hS hl)
def aFit (d' d : Nat) (M' : aM) : Bool := Nat.ble (d' + 1) d && Nat.ble (8 + (aMl M' + 11) + 64 * d') (64 * d)
theorem aFit_ok {d' : Nat} {M' : aM} {mc' ms' : Nat} (h : aFit d' d M' = true) : (aRm d' mc' ms').frames + 1 ≤ (aRm d mc ms).frames ∧ 8 + (aMl M' + 11) + (aRm d' mc' ms').locals ≤ (aRm d mc ms).locals := by
  simp only [aFit, Bool.and_eq_true] at h
  exact ⟨Nat.le_of_ble_eq_true h.1, Nat.le_of_ble_eq_true h.2⟩
def aNp (M' : aM) : Option Nat := (parseMethodDescriptor (aMn M').desc).map (fun d => d.parameters.length)
theorem aw_cVi {M' : aM} {idx ci k np d' : Nat} {As rest : List Value} {fs : List aFS} {K' : Int32 → aD → Prop} (hK0 : va_K (gD G) vwCl (gTy G) (gs G)) (hLk : aLkV (aMo M) idx ci M' ∧ aNp M' = some np) (hAs : As.length = np) (hst : st = As.reverse ++ .ref k :: rest) (hs : shp[k]? = some (.inr (ci, fs))) (hC : AC G (aRm d' 0 0) M' (.ref k :: As) none shp D (aQi shp K')) (hR : aFit d' d M' = true) (hcat : (rest.map (fun v => v.category)).sum ≤ 8) (hkc : kc ≤ mc) (hks : ks ≤ ms) (hd : decode (aMb M) pc = .ok (.invokevirtual idx, 3)) (hn : pc + 3 = n) (K : ∀ (r : Int32) (D' : aD), K' r D' → AW G (aRm d mc ms) M fr kc ks n al (.int r :: rest) shp D' Q) : AW G (aRm d mc ms) M fr kc ks pc al st shp D Q := by
  refine aw_callV (R' := aRm d' 0 0) (rest := rest) hK0 hLk.1 (by rw [hAs]; exact hLk.2) hst hs hC (aFit_ok hR).1 (aFit_ok hR).2 hcat hkc hks (Or.inl rfl) hd hn (Or.inr (fun E shp' D' hq => by obtain ⟨r, e, -⟩ := hq; cases e)) (fun E shp' D' hq => ?_) (fun v shp' D' hq => ?_)
  · obtain ⟨r, e, -⟩ := hq; cases e
  · obtain ⟨r, e, rfl, hk⟩ := hq; cases e; exact K r D' hk
theorem aw_cVv {M' : aM} {idx ci k np d' : Nat} {As rest : List Value} {fs : List aFS} {K' : aD → Prop} (hK0 : va_K (gD G) vwCl (gTy G) (gs G)) (hLk : aLkV (aMo M) idx ci M' ∧ aNp M' = some np) (hAs : As.length = np) (hst : st = As.reverse ++ .ref k :: rest) (hs : shp[k]? = some (.inr (ci, fs))) (hC : AC G (aRm d' 0 0) M' (.ref k :: As) none shp D (aQv shp K')) (hR : aFit d' d M' = true) (hcat : (rest.map (fun v => v.category)).sum ≤ 8) (hkc : kc ≤ mc) (hks : ks ≤ ms) (hd : decode (aMb M) pc = .ok (.invokevirtual idx, 3)) (hn : pc + 3 = n) (K : ∀ (D' : aD), K' D' → AW G (aRm d mc ms) M fr kc ks n al rest shp D' Q) : AW G (aRm d mc ms) M fr kc ks pc al st shp D Q := by
  refine aw_callV (R' := aRm d' 0 0) (rest := rest) hK0 hLk.1 (by rw [hAs]; exact hLk.2) hst hs hC (aFit_ok hR).1 (aFit_ok hR).2 hcat hkc hks (Or.inl rfl) hd hn (Or.inr (fun E shp' D' hq => by obtain ⟨e, -⟩ := hq; cases e)) (fun E shp' D' hq => ?_) (fun v shp' D' hq => ?_)
  · obtain ⟨e, -⟩ := hq; cases e
  · obtain ⟨e, rfl, hk⟩ := hq; cases e; exact K D' hk
theorem aw_cVl {M' : aM} {idx ci k np d' : Nat} {As rest : List Value} {fs : List aFS} {K' : Int64 → aD → Prop} (hK0 : va_K (gD G) vwCl (gTy G) (gs G)) (hLk : aLkV (aMo M) idx ci M' ∧ aNp M' = some np) (hAs : As.length = np) (hst : st = As.reverse ++ .ref k :: rest) (hs : shp[k]? = some (.inr (ci, fs))) (hC : AC G (aRm d' 0 0) M' (.ref k :: As) none shp D (aQl shp K')) (hR : aFit d' d M' = true) (hcat : (rest.map (fun v => v.category)).sum ≤ 8) (hkc : kc ≤ mc) (hks : ks ≤ ms) (hd : decode (aMb M) pc = .ok (.invokevirtual idx, 3)) (hn : pc + 3 = n) (K : ∀ (r : Int64) (D' : aD), K' r D' → AW G (aRm d mc ms) M fr kc ks n al (.long r :: rest) shp D' Q) : AW G (aRm d mc ms) M fr kc ks pc al st shp D Q := by
  refine aw_callV (R' := aRm d' 0 0) (rest := rest) hK0 hLk.1 (by rw [hAs]; exact hLk.2) hst hs hC (aFit_ok hR).1 (aFit_ok hR).2 hcat hkc hks (Or.inl rfl) hd hn (Or.inr (fun E shp' D' hq => by obtain ⟨r, e, -⟩ := hq; cases e)) (fun E shp' D' hq => ?_) (fun v shp' D' hq => ?_)
  · obtain ⟨r, e, -⟩ := hq; cases e
  · obtain ⟨r, e, rfl, hk⟩ := hq; cases e; exact K r D' hk
theorem aw_cVxi {M' : aM} {idx ci k np d' mc' ms' kn kn2 : Nat} {As rest : List Value} {fs : List aFS} {K0 : (String ⊕ Int32) → aD → Prop} {Kc : Int32 → aD → Prop} (hK0 : va_K (gD G) vwCl (gTy G) (gs G)) (hLk : aLkV (aMo M) idx ci M' ∧ aNp M' = some np) (hAs : As.length = np) (hst : st = As.reverse ++ .ref k :: rest) (hs : shp[k]? = some (.inr (ci, fs))) (hC : AC G (aRm d' mc' ms') M' (.ref k :: As) none shp D (aQxi shp (fun q D => (∀ E, q = .inl E → K0 (.inl E) D) ∧ ∀ y, q = .inr y → Kc y D))) (hR : aFit d' d M' = true) (hcat : (rest.map (fun v => v.category)).sum ≤ 8) (hk1 : kc + mc' = kn) (hk2 : ks + ms' = kn2) (hkc : kn ≤ mc) (hks : kn2 ≤ ms) (hz : aMt M = []) (hd : decode (aMb M) pc = .ok (.invokevirtual idx, 3)) (hn : pc + 3 = n) (KX : ∀ (E : String) (D' : aD), K0 (.inl E) D' → Q (.inr E) shp D') (K : ∀ (r : Int32) (D' : aD), Kc r D' → AW G (aRm d mc ms) M fr kn kn2 n al (.int r :: rest) shp D' Q) : AW G (aRm d mc ms) M fr kc ks pc al st shp D Q := by
  subst hk1; subst hk2
  refine aw_callV (R' := aRm d' mc' ms') (rest := rest) hK0 hLk.1 (by rw [hAs]; exact hLk.2) hst hs hC (aFit_ok hR).1 (aFit_ok hR).2 hcat hkc hks (Or.inl rfl) hd hn (Or.inl hz) (fun E shp' D' hq => ?_) (fun v shp' D' hq => ?_)
  · obtain ⟨rfl, hq⟩ := hq
    rcases hq with ⟨r, e, -⟩ | ⟨E', e, hk⟩
    · cases e
    · cases e; exact KX E D' (hk.1 E rfl)
  · obtain ⟨rfl, hq⟩ := hq
    rcases hq with ⟨r, e, hk⟩ | ⟨E', e, hk⟩
    · cases e; exact K r D' (hk.2 _ rfl)
    · cases e
theorem aw_cVxv {M' : aM} {idx ci k np d' mc' ms' kn kn2 : Nat} {As rest : List Value} {fs : List aFS} {K0 : (String ⊕ Int32) → aD → Prop} {Kc : Int32 → aD → Prop} (hK0 : va_K (gD G) vwCl (gTy G) (gs G)) (hLk : aLkV (aMo M) idx ci M' ∧ aNp M' = some np) (hAs : As.length = np) (hst : st = As.reverse ++ .ref k :: rest) (hs : shp[k]? = some (.inr (ci, fs))) (hC : AC G (aRm d' mc' ms') M' (.ref k :: As) none shp D (aQxv shp (fun q D => (∀ E, q = .inl E → K0 (.inl E) D) ∧ ∀ y, q = .inr y → Kc y D))) (hR : aFit d' d M' = true) (hcat : (rest.map (fun v => v.category)).sum ≤ 8) (hk1 : kc + mc' = kn) (hk2 : ks + ms' = kn2) (hkc : kn ≤ mc) (hks : kn2 ≤ ms) (hz : aMt M = []) (hd : decode (aMb M) pc = .ok (.invokevirtual idx, 3)) (hn : pc + 3 = n) (KX : ∀ (E : String) (D' : aD), K0 (.inl E) D' → Q (.inr E) shp D') (K : ∀ (r : Int32) (D' : aD), Kc r D' → AW G (aRm d mc ms) M fr kn kn2 n al (rest) shp D' Q) : AW G (aRm d mc ms) M fr kc ks pc al st shp D Q := by
  subst hk1; subst hk2
  refine aw_callV (R' := aRm d' mc' ms') (rest := rest) hK0 hLk.1 (by rw [hAs]; exact hLk.2) hst hs hC (aFit_ok hR).1 (aFit_ok hR).2 hcat hkc hks (Or.inl rfl) hd hn (Or.inl hz) (fun E shp' D' hq => ?_) (fun v shp' D' hq => ?_)
  · obtain ⟨rfl, hq⟩ := hq
    rcases hq with ⟨e, -⟩ | ⟨E', e, hk⟩
    · cases e
    · cases e; exact KX E D' (hk.1 E rfl)
  · obtain ⟨rfl, hq⟩ := hq
    rcases hq with ⟨e, hk⟩ | ⟨E', e, hk⟩
    · cases e; exact K 0 D' (hk.2 _ rfl)
    · cases e
theorem aw_cSi {M' : aM} {idx np d' : Nat} {As rest : List Value} {K' : Int32 → aD → Prop} (hLk : aLkS (aMo M) idx M' ∧ aNp M' = some np) (hAs : As.length = np) (hst : st = As.reverse ++ rest) (hC : AC G (aRm d' 0 0) M' (As) none shp D (aQi shp K')) (hR : aFit d' d M' = true) (hcat : (rest.map (fun v => v.category)).sum ≤ 8) (hkc : kc ≤ mc) (hks : ks ≤ ms) (hd : decode (aMb M) pc = .ok (.invokestatic idx, 3)) (hn : pc + 3 = n) (K : ∀ (r : Int32) (D' : aD), K' r D' → AW G (aRm d mc ms) M fr kc ks n al (.int r :: rest) shp D' Q) : AW G (aRm d mc ms) M fr kc ks pc al st shp D Q := by
  refine aw_callS (R' := aRm d' 0 0) (rest := rest) hLk.1 (by rw [hAs]; exact hLk.2) hst hC (aFit_ok hR).1 (aFit_ok hR).2 hcat hkc hks (Or.inl rfl) hd hn (Or.inr (fun E shp' D' hq => by obtain ⟨r, e, -⟩ := hq; cases e)) (fun E shp' D' hq => ?_) (fun v shp' D' hq => ?_)
  · obtain ⟨r, e, -⟩ := hq; cases e
  · obtain ⟨r, e, rfl, hk⟩ := hq; cases e; exact K r D' hk
theorem aw_cSv {M' : aM} {idx np d' : Nat} {As rest : List Value} {K' : aD → Prop} (hLk : aLkS (aMo M) idx M' ∧ aNp M' = some np) (hAs : As.length = np) (hst : st = As.reverse ++ rest) (hC : AC G (aRm d' 0 0) M' (As) none shp D (aQv shp K')) (hR : aFit d' d M' = true) (hcat : (rest.map (fun v => v.category)).sum ≤ 8) (hkc : kc ≤ mc) (hks : ks ≤ ms) (hd : decode (aMb M) pc = .ok (.invokestatic idx, 3)) (hn : pc + 3 = n) (K : ∀ (D' : aD), K' D' → AW G (aRm d mc ms) M fr kc ks n al rest shp D' Q) : AW G (aRm d mc ms) M fr kc ks pc al st shp D Q := by
  refine aw_callS (R' := aRm d' 0 0) (rest := rest) hLk.1 (by rw [hAs]; exact hLk.2) hst hC (aFit_ok hR).1 (aFit_ok hR).2 hcat hkc hks (Or.inl rfl) hd hn (Or.inr (fun E shp' D' hq => by obtain ⟨e, -⟩ := hq; cases e)) (fun E shp' D' hq => ?_) (fun v shp' D' hq => ?_)
  · obtain ⟨e, -⟩ := hq; cases e
  · obtain ⟨e, rfl, hk⟩ := hq; cases e; exact K D' hk
theorem aw_cSl {M' : aM} {idx np d' : Nat} {As rest : List Value} {K' : Int64 → aD → Prop} (hLk : aLkS (aMo M) idx M' ∧ aNp M' = some np) (hAs : As.length = np) (hst : st = As.reverse ++ rest) (hC : AC G (aRm d' 0 0) M' (As) none shp D (aQl shp K')) (hR : aFit d' d M' = true) (hcat : (rest.map (fun v => v.category)).sum ≤ 8) (hkc : kc ≤ mc) (hks : ks ≤ ms) (hd : decode (aMb M) pc = .ok (.invokestatic idx, 3)) (hn : pc + 3 = n) (K : ∀ (r : Int64) (D' : aD), K' r D' → AW G (aRm d mc ms) M fr kc ks n al (.long r :: rest) shp D' Q) : AW G (aRm d mc ms) M fr kc ks pc al st shp D Q := by
  refine aw_callS (R' := aRm d' 0 0) (rest := rest) hLk.1 (by rw [hAs]; exact hLk.2) hst hC (aFit_ok hR).1 (aFit_ok hR).2 hcat hkc hks (Or.inl rfl) hd hn (Or.inr (fun E shp' D' hq => by obtain ⟨r, e, -⟩ := hq; cases e)) (fun E shp' D' hq => ?_) (fun v shp' D' hq => ?_)
  · obtain ⟨r, e, -⟩ := hq; cases e
  · obtain ⟨r, e, rfl, hk⟩ := hq; cases e; exact K r D' hk
theorem aw_cSxi {M' : aM} {idx np d' mc' ms' kn kn2 : Nat} {As rest : List Value} {K0 : (String ⊕ Int32) → aD → Prop} {Kc : Int32 → aD → Prop} (hLk : aLkS (aMo M) idx M' ∧ aNp M' = some np) (hAs : As.length = np) (hst : st = As.reverse ++ rest) (hC : AC G (aRm d' mc' ms') M' (As) none shp D (aQxi shp (fun q D => (∀ E, q = .inl E → K0 (.inl E) D) ∧ ∀ y, q = .inr y → Kc y D))) (hR : aFit d' d M' = true) (hcat : (rest.map (fun v => v.category)).sum ≤ 8) (hk1 : kc + mc' = kn) (hk2 : ks + ms' = kn2) (hkc : kn ≤ mc) (hks : kn2 ≤ ms) (hz : aMt M = []) (hd : decode (aMb M) pc = .ok (.invokestatic idx, 3)) (hn : pc + 3 = n) (KX : ∀ (E : String) (D' : aD), K0 (.inl E) D' → Q (.inr E) shp D') (K : ∀ (r : Int32) (D' : aD), Kc r D' → AW G (aRm d mc ms) M fr kn kn2 n al (.int r :: rest) shp D' Q) : AW G (aRm d mc ms) M fr kc ks pc al st shp D Q := by
  subst hk1; subst hk2
  refine aw_callS (R' := aRm d' mc' ms') (rest := rest) hLk.1 (by rw [hAs]; exact hLk.2) hst hC (aFit_ok hR).1 (aFit_ok hR).2 hcat hkc hks (Or.inl rfl) hd hn (Or.inl hz) (fun E shp' D' hq => ?_) (fun v shp' D' hq => ?_)
  · obtain ⟨rfl, hq⟩ := hq
    rcases hq with ⟨r, e, -⟩ | ⟨E', e, hk⟩
    · cases e
    · cases e; exact KX E D' (hk.1 E rfl)
  · obtain ⟨rfl, hq⟩ := hq
    rcases hq with ⟨r, e, hk⟩ | ⟨E', e, hk⟩
    · cases e; exact K r D' (hk.2 _ rfl)
    · cases e
theorem aw_cSxv {M' : aM} {idx np d' mc' ms' kn kn2 : Nat} {As rest : List Value} {K0 : (String ⊕ Int32) → aD → Prop} {Kc : Int32 → aD → Prop} (hLk : aLkS (aMo M) idx M' ∧ aNp M' = some np) (hAs : As.length = np) (hst : st = As.reverse ++ rest) (hC : AC G (aRm d' mc' ms') M' (As) none shp D (aQxv shp (fun q D => (∀ E, q = .inl E → K0 (.inl E) D) ∧ ∀ y, q = .inr y → Kc y D))) (hR : aFit d' d M' = true) (hcat : (rest.map (fun v => v.category)).sum ≤ 8) (hk1 : kc + mc' = kn) (hk2 : ks + ms' = kn2) (hkc : kn ≤ mc) (hks : kn2 ≤ ms) (hz : aMt M = []) (hd : decode (aMb M) pc = .ok (.invokestatic idx, 3)) (hn : pc + 3 = n) (KX : ∀ (E : String) (D' : aD), K0 (.inl E) D' → Q (.inr E) shp D') (K : ∀ (r : Int32) (D' : aD), Kc r D' → AW G (aRm d mc ms) M fr kn kn2 n al (rest) shp D' Q) : AW G (aRm d mc ms) M fr kc ks pc al st shp D Q := by
  subst hk1; subst hk2
  refine aw_callS (R' := aRm d' mc' ms') (rest := rest) hLk.1 (by rw [hAs]; exact hLk.2) hst hC (aFit_ok hR).1 (aFit_ok hR).2 hcat hkc hks (Or.inl rfl) hd hn (Or.inl hz) (fun E shp' D' hq => ?_) (fun v shp' D' hq => ?_)
  · obtain ⟨rfl, hq⟩ := hq
    rcases hq with ⟨e, -⟩ | ⟨E', e, hk⟩
    · cases e
    · cases e; exact KX E D' (hk.1 E rfl)
  · obtain ⟨rfl, hq⟩ := hq
    rcases hq with ⟨e, hk⟩ | ⟨E', e, hk⟩
    · cases e; exact K 0 D' (hk.2 _ rfl)
    · cases e
end AWT
def shpF : List aSh := [.inr (11, [some (some 1), none, none, some (some 2), some (some 21), some (some 40), some (some 48), none, some (some 56), some (some 57), some (some 60), some (some 68), some (some 74), some (some 79)]),
  .inl (0, 700, []),
  .inr (6, [some (some 3), some (some 7), none, none, none, none, none, none, none, none, some (some 8), some (some 9), some (some 10), some (some 11), some (some 12), some (some 13), some (some 14)]),
  .inr (4, [none, none, some (some 4), some (some 5), some (some 6)]),
  .inl (1, 64, []),
  .inl (1, 64, []),
  .inl (3, 64, []),
  .inl (4, 6, [some 15, some 16, some 17, some 18, some 19, some 20]),
  .inl (1, 12, []),
  .inl (1, 12, []),
  .inl (1, 12, []),
  .inl (1, 5, []),
  .inl (1, 36, []),
  .inl (3, 6, []),
  .inl (1, 5, []),
  .inr (8, [none, none, none, none, none, none, none]),
  .inr (8, [none, none, none, none, none, none, none]),
  .inr (8, [none, none, none, none, none, none, none]),
  .inr (8, [none, none, none, none, none, none, none]),
  .inr (8, [none, none, none, none, none, none, none]),
  .inr (8, [none, none, none, none, none, none, none]),
  .inr (6, [some (some 22), some (some 26), none, none, none, none, none, none, none, none, some (some 27), some (some 28), some (some 29), some (some 30), some (some 31), some (some 32), some (some 33)]),
  .inr (4, [none, none, some (some 23), some (some 24), some (some 25)]),
  .inl (1, 64, []),
  .inl (1, 64, []),
  .inl (3, 64, []),
  .inl (4, 6, [some 34, some 35, some 36, some 37, some 38, some 39]),
  .inl (1, 12, []),
  .inl (1, 12, []),
  .inl (1, 12, []),
  .inl (1, 5, []),
  .inl (1, 36, []),
  .inl (3, 6, []),
  .inl (1, 5, []),
  .inr (8, [none, none, none, none, none, none, none]),
  .inr (8, [none, none, none, none, none, none, none]),
  .inr (8, [none, none, none, none, none, none, none]),
  .inr (8, [none, none, none, none, none, none, none]),
  .inr (8, [none, none, none, none, none, none, none]),
  .inr (8, [none, none, none, none, none, none, none]),
  .inr (9, [some (some 41), some (some 42), none, none, none, some (some 43), some (some 44), some (some 45), some (some 46), some (some 47)]),
  .inl (1, 12, []),
  .inl (1, 5, []),
  .inl (1, 12, []),
  .inl (1, 12, []),
  .inl (1, 12, []),
  .inl (1, 12, []),
  .inl (1, 3, []),
  .inr (9, [some (some 49), some (some 50), none, none, none, some (some 51), some (some 52), some (some 53), some (some 54), some (some 55)]),
  .inl (1, 12, []),
  .inl (1, 5, []),
  .inl (1, 12, []),
  .inl (1, 12, []),
  .inl (1, 12, []),
  .inl (1, 12, []),
  .inl (1, 3, []),
  .inr (7, [some (some 1), some (some 21), none, none, none, none, none, none, none]),
  .inr (0, [some (some 2), some (some 40), some (some 58), some (some 59)]),
  .inl (1, 6, []),
  .inl (1, 30, []),
  .inr (1, [some (some 2), some (some 40), some (some 57), none, some (some 61), some (some 62), some (some 63), some (some 64), some (some 65), some (some 66), some (some 67)]),
  .inl (1, 12, []),
  .inl (1, 12, []),
  .inl (1, 12, []),
  .inl (1, 300, []),
  .inl (1, 300, []),
  .inl (1, 5, []),
  .inl (1, 5, []),
  .inr (3, [some (some 2), some (some 60), none, some (some 69), some (some 70), some (some 71), some (some 72), some (some 73), none, none]),
  .inl (1, 6, []),
  .inl (1, 6, []),
  .inl (1, 6, []),
  .inl (1, 6, []),
  .inl (1, 21, []),
  .inr (2, [some (some 2), some (some 40), some (some 57), some (some 75), some (some 76), some (some 77), some (some 78)]),
  .inl (1, 5, []),
  .inl (1, 5, []),
  .inl (1, 5, []),
  .inl (1, 625, []),
  .inr (10, [some (some 2), some (some 40), some (some 57), some (some 80), none, none, some (some 81), some (some 82)]),
  .inl (1, 1925, []),
  .inl (1, 72, []),
  .inr (5, [some (some 83), some (some 84), some (some 85), some (some 86), some (some 87), none, none]),
  .inl (1, 1024, []),
  .inl (2, 1925, []),
  .inl (2, 1925, []),
  .inl (1, 1925, []),
  .inl (1, 1925, []),
  .inr (12, [some (some 89), some (some 90), none, some (some 91), some (some 92), some (some 93), some (some 94), some (some 95), some (some 96), some (some 97), some (some 98), some (some 99), some (some 100), some (some 101), some (some 102), some (some 103), some (some 104), some (some 105), none, none, none, none, none, none, none, none, none, none, some (some 106), some (some 107), none, none, none, none, some (some 108), some (some 109), some (some 110), some (some 111), some (some 112), some (some 113), some (some 114), none, none, some (some 115), some (some 116), some (some 117), none, some (some 118), some (some 119), some (some 120), some (some 121), some (some 122), none, some (some 123), some (some 124), none, none, none, none, some (some 125), some (some 126), some (some 127), some (some 128), some (some 129), some (some 130), some (some 131)]),
  .inl (5, 4, [some 10000, some 10001, some 10002, some 10003]),
  .inl (1, 4, []),
  .inl (1, 32, []),
  .inl (1, 12, []),
  .inl (1, 12, []),
  .inl (1, 12, []),
  .inl (1, 12, []),
  .inl (1, 12, []),
  .inl (1, 12, []),
  .inl (1, 12, []),
  .inl (1, 26, []),
  .inl (1, 26, []),
  .inl (1, 26, []),
  .inl (1, 10, []),
  .inl (1, 72, []),
  .inl (1, 3, []),
  .inl (1, 700, []),
  .inl (1, 13, []),
  .inl (1, 5, []),
  .inl (1, 6, []),
  .inl (1, 30, []),
  .inl (1, 6, []),
  .inl (1, 6, []),
  .inl (1, 5, []),
  .inl (1, 12, []),
  .inl (1, 12, []),
  .inl (1, 13, []),
  .inl (1, 5, []),
  .inl (1, 5, []),
  .inl (1, 12, []),
  .inl (1, 12, []),
  .inl (1, 12, []),
  .inl (1, 12, []),
  .inl (1, 1925, []),
  .inl (1, 11550, []),
  .inl (1, 5, []),
  .inl (1, 13, []),
  .inl (1, 5, []),
  .inl (1, 12, []),
  .inl (1, 12, []),
  .inl (1, 12, []),
  .inl (1, 12, []),
  .inl (1, 3, []),
  .inl (2, 1, [])]
def aShp (shp : List aSh) : Prop := shp = shpF
theorem sF_0 {shp : List aSh} (h : aShp shp) : shp[0]? = some (.inr (11, [some (some 1), none, none, some (some 2), some (some 21), some (some 40), some (some 48), none, some (some 56), some (some 57), some (some 60), some (some 68), some (some 74), some (some 79)])) := by subst h; rfl
theorem sF_1 {shp : List aSh} (h : aShp shp) : shp[1]? = some (.inl (0, 700, [])) := by subst h; rfl
theorem sF_2 {shp : List aSh} (h : aShp shp) : shp[2]? = some (.inr (6, [some (some 3), some (some 7), none, none, none, none, none, none, none, none, some (some 8), some (some 9), some (some 10), some (some 11), some (some 12), some (some 13), some (some 14)])) := by subst h; rfl
theorem sF_3 {shp : List aSh} (h : aShp shp) : shp[3]? = some (.inr (4, [none, none, some (some 4), some (some 5), some (some 6)])) := by subst h; rfl
theorem sF_4 {shp : List aSh} (h : aShp shp) : shp[4]? = some (.inl (1, 64, [])) := by subst h; rfl
theorem sF_5 {shp : List aSh} (h : aShp shp) : shp[5]? = some (.inl (1, 64, [])) := by subst h; rfl
theorem sF_6 {shp : List aSh} (h : aShp shp) : shp[6]? = some (.inl (3, 64, [])) := by subst h; rfl
theorem sF_7 {shp : List aSh} (h : aShp shp) : shp[7]? = some (.inl (4, 6, [some 15, some 16, some 17, some 18, some 19, some 20])) := by subst h; rfl
theorem sF_8 {shp : List aSh} (h : aShp shp) : shp[8]? = some (.inl (1, 12, [])) := by subst h; rfl
theorem sF_9 {shp : List aSh} (h : aShp shp) : shp[9]? = some (.inl (1, 12, [])) := by subst h; rfl
theorem sF_10 {shp : List aSh} (h : aShp shp) : shp[10]? = some (.inl (1, 12, [])) := by subst h; rfl
theorem sF_11 {shp : List aSh} (h : aShp shp) : shp[11]? = some (.inl (1, 5, [])) := by subst h; rfl
theorem sF_12 {shp : List aSh} (h : aShp shp) : shp[12]? = some (.inl (1, 36, [])) := by subst h; rfl
theorem sF_13 {shp : List aSh} (h : aShp shp) : shp[13]? = some (.inl (3, 6, [])) := by subst h; rfl
theorem sF_14 {shp : List aSh} (h : aShp shp) : shp[14]? = some (.inl (1, 5, [])) := by subst h; rfl
theorem sF_15 {shp : List aSh} (h : aShp shp) : shp[15]? = some (.inr (8, [none, none, none, none, none, none, none])) := by subst h; rfl
theorem sF_16 {shp : List aSh} (h : aShp shp) : shp[16]? = some (.inr (8, [none, none, none, none, none, none, none])) := by subst h; rfl
theorem sF_17 {shp : List aSh} (h : aShp shp) : shp[17]? = some (.inr (8, [none, none, none, none, none, none, none])) := by subst h; rfl
theorem sF_18 {shp : List aSh} (h : aShp shp) : shp[18]? = some (.inr (8, [none, none, none, none, none, none, none])) := by subst h; rfl
theorem sF_19 {shp : List aSh} (h : aShp shp) : shp[19]? = some (.inr (8, [none, none, none, none, none, none, none])) := by subst h; rfl
theorem sF_20 {shp : List aSh} (h : aShp shp) : shp[20]? = some (.inr (8, [none, none, none, none, none, none, none])) := by subst h; rfl
theorem sF_21 {shp : List aSh} (h : aShp shp) : shp[21]? = some (.inr (6, [some (some 22), some (some 26), none, none, none, none, none, none, none, none, some (some 27), some (some 28), some (some 29), some (some 30), some (some 31), some (some 32), some (some 33)])) := by subst h; rfl
theorem sF_22 {shp : List aSh} (h : aShp shp) : shp[22]? = some (.inr (4, [none, none, some (some 23), some (some 24), some (some 25)])) := by subst h; rfl
theorem sF_23 {shp : List aSh} (h : aShp shp) : shp[23]? = some (.inl (1, 64, [])) := by subst h; rfl
theorem sF_24 {shp : List aSh} (h : aShp shp) : shp[24]? = some (.inl (1, 64, [])) := by subst h; rfl
theorem sF_25 {shp : List aSh} (h : aShp shp) : shp[25]? = some (.inl (3, 64, [])) := by subst h; rfl
theorem sF_26 {shp : List aSh} (h : aShp shp) : shp[26]? = some (.inl (4, 6, [some 34, some 35, some 36, some 37, some 38, some 39])) := by subst h; rfl
theorem sF_27 {shp : List aSh} (h : aShp shp) : shp[27]? = some (.inl (1, 12, [])) := by subst h; rfl
theorem sF_28 {shp : List aSh} (h : aShp shp) : shp[28]? = some (.inl (1, 12, [])) := by subst h; rfl
theorem sF_29 {shp : List aSh} (h : aShp shp) : shp[29]? = some (.inl (1, 12, [])) := by subst h; rfl
theorem sF_30 {shp : List aSh} (h : aShp shp) : shp[30]? = some (.inl (1, 5, [])) := by subst h; rfl
theorem sF_31 {shp : List aSh} (h : aShp shp) : shp[31]? = some (.inl (1, 36, [])) := by subst h; rfl
theorem sF_32 {shp : List aSh} (h : aShp shp) : shp[32]? = some (.inl (3, 6, [])) := by subst h; rfl
theorem sF_33 {shp : List aSh} (h : aShp shp) : shp[33]? = some (.inl (1, 5, [])) := by subst h; rfl
theorem sF_34 {shp : List aSh} (h : aShp shp) : shp[34]? = some (.inr (8, [none, none, none, none, none, none, none])) := by subst h; rfl
theorem sF_35 {shp : List aSh} (h : aShp shp) : shp[35]? = some (.inr (8, [none, none, none, none, none, none, none])) := by subst h; rfl
theorem sF_36 {shp : List aSh} (h : aShp shp) : shp[36]? = some (.inr (8, [none, none, none, none, none, none, none])) := by subst h; rfl
theorem sF_37 {shp : List aSh} (h : aShp shp) : shp[37]? = some (.inr (8, [none, none, none, none, none, none, none])) := by subst h; rfl
theorem sF_38 {shp : List aSh} (h : aShp shp) : shp[38]? = some (.inr (8, [none, none, none, none, none, none, none])) := by subst h; rfl
theorem sF_39 {shp : List aSh} (h : aShp shp) : shp[39]? = some (.inr (8, [none, none, none, none, none, none, none])) := by subst h; rfl
theorem sF_40 {shp : List aSh} (h : aShp shp) : shp[40]? = some (.inr (9, [some (some 41), some (some 42), none, none, none, some (some 43), some (some 44), some (some 45), some (some 46), some (some 47)])) := by subst h; rfl
theorem sF_41 {shp : List aSh} (h : aShp shp) : shp[41]? = some (.inl (1, 12, [])) := by subst h; rfl
theorem sF_42 {shp : List aSh} (h : aShp shp) : shp[42]? = some (.inl (1, 5, [])) := by subst h; rfl
theorem sF_43 {shp : List aSh} (h : aShp shp) : shp[43]? = some (.inl (1, 12, [])) := by subst h; rfl
theorem sF_44 {shp : List aSh} (h : aShp shp) : shp[44]? = some (.inl (1, 12, [])) := by subst h; rfl
theorem sF_45 {shp : List aSh} (h : aShp shp) : shp[45]? = some (.inl (1, 12, [])) := by subst h; rfl
theorem sF_46 {shp : List aSh} (h : aShp shp) : shp[46]? = some (.inl (1, 12, [])) := by subst h; rfl
theorem sF_47 {shp : List aSh} (h : aShp shp) : shp[47]? = some (.inl (1, 3, [])) := by subst h; rfl
theorem sF_48 {shp : List aSh} (h : aShp shp) : shp[48]? = some (.inr (9, [some (some 49), some (some 50), none, none, none, some (some 51), some (some 52), some (some 53), some (some 54), some (some 55)])) := by subst h; rfl
theorem sF_49 {shp : List aSh} (h : aShp shp) : shp[49]? = some (.inl (1, 12, [])) := by subst h; rfl
theorem sF_50 {shp : List aSh} (h : aShp shp) : shp[50]? = some (.inl (1, 5, [])) := by subst h; rfl
theorem sF_51 {shp : List aSh} (h : aShp shp) : shp[51]? = some (.inl (1, 12, [])) := by subst h; rfl
theorem sF_52 {shp : List aSh} (h : aShp shp) : shp[52]? = some (.inl (1, 12, [])) := by subst h; rfl
theorem sF_53 {shp : List aSh} (h : aShp shp) : shp[53]? = some (.inl (1, 12, [])) := by subst h; rfl
theorem sF_54 {shp : List aSh} (h : aShp shp) : shp[54]? = some (.inl (1, 12, [])) := by subst h; rfl
theorem sF_55 {shp : List aSh} (h : aShp shp) : shp[55]? = some (.inl (1, 3, [])) := by subst h; rfl
theorem sF_56 {shp : List aSh} (h : aShp shp) : shp[56]? = some (.inr (7, [some (some 1), some (some 21), none, none, none, none, none, none, none])) := by subst h; rfl
theorem sF_57 {shp : List aSh} (h : aShp shp) : shp[57]? = some (.inr (0, [some (some 2), some (some 40), some (some 58), some (some 59)])) := by subst h; rfl
theorem sF_58 {shp : List aSh} (h : aShp shp) : shp[58]? = some (.inl (1, 6, [])) := by subst h; rfl
theorem sF_59 {shp : List aSh} (h : aShp shp) : shp[59]? = some (.inl (1, 30, [])) := by subst h; rfl
theorem sF_60 {shp : List aSh} (h : aShp shp) : shp[60]? = some (.inr (1, [some (some 2), some (some 40), some (some 57), none, some (some 61), some (some 62), some (some 63), some (some 64), some (some 65), some (some 66), some (some 67)])) := by subst h; rfl
theorem sF_61 {shp : List aSh} (h : aShp shp) : shp[61]? = some (.inl (1, 12, [])) := by subst h; rfl
theorem sF_62 {shp : List aSh} (h : aShp shp) : shp[62]? = some (.inl (1, 12, [])) := by subst h; rfl
theorem sF_63 {shp : List aSh} (h : aShp shp) : shp[63]? = some (.inl (1, 12, [])) := by subst h; rfl
theorem sF_64 {shp : List aSh} (h : aShp shp) : shp[64]? = some (.inl (1, 300, [])) := by subst h; rfl
theorem sF_65 {shp : List aSh} (h : aShp shp) : shp[65]? = some (.inl (1, 300, [])) := by subst h; rfl
theorem sF_66 {shp : List aSh} (h : aShp shp) : shp[66]? = some (.inl (1, 5, [])) := by subst h; rfl
theorem sF_67 {shp : List aSh} (h : aShp shp) : shp[67]? = some (.inl (1, 5, [])) := by subst h; rfl
theorem sF_68 {shp : List aSh} (h : aShp shp) : shp[68]? = some (.inr (3, [some (some 2), some (some 60), none, some (some 69), some (some 70), some (some 71), some (some 72), some (some 73), none, none])) := by subst h; rfl
theorem sF_69 {shp : List aSh} (h : aShp shp) : shp[69]? = some (.inl (1, 6, [])) := by subst h; rfl
theorem sF_70 {shp : List aSh} (h : aShp shp) : shp[70]? = some (.inl (1, 6, [])) := by subst h; rfl
theorem sF_71 {shp : List aSh} (h : aShp shp) : shp[71]? = some (.inl (1, 6, [])) := by subst h; rfl
theorem sF_72 {shp : List aSh} (h : aShp shp) : shp[72]? = some (.inl (1, 6, [])) := by subst h; rfl
theorem sF_73 {shp : List aSh} (h : aShp shp) : shp[73]? = some (.inl (1, 21, [])) := by subst h; rfl
theorem sF_74 {shp : List aSh} (h : aShp shp) : shp[74]? = some (.inr (2, [some (some 2), some (some 40), some (some 57), some (some 75), some (some 76), some (some 77), some (some 78)])) := by subst h; rfl
theorem sF_75 {shp : List aSh} (h : aShp shp) : shp[75]? = some (.inl (1, 5, [])) := by subst h; rfl
theorem sF_76 {shp : List aSh} (h : aShp shp) : shp[76]? = some (.inl (1, 5, [])) := by subst h; rfl
theorem sF_77 {shp : List aSh} (h : aShp shp) : shp[77]? = some (.inl (1, 5, [])) := by subst h; rfl
theorem sF_78 {shp : List aSh} (h : aShp shp) : shp[78]? = some (.inl (1, 625, [])) := by subst h; rfl
theorem sF_79 {shp : List aSh} (h : aShp shp) : shp[79]? = some (.inr (10, [some (some 2), some (some 40), some (some 57), some (some 80), none, none, some (some 81), some (some 82)])) := by subst h; rfl
theorem sF_80 {shp : List aSh} (h : aShp shp) : shp[80]? = some (.inl (1, 1925, [])) := by subst h; rfl
theorem sF_81 {shp : List aSh} (h : aShp shp) : shp[81]? = some (.inl (1, 72, [])) := by subst h; rfl
theorem sF_82 {shp : List aSh} (h : aShp shp) : shp[82]? = some (.inr (5, [some (some 83), some (some 84), some (some 85), some (some 86), some (some 87), none, none])) := by subst h; rfl
theorem sF_83 {shp : List aSh} (h : aShp shp) : shp[83]? = some (.inl (1, 1024, [])) := by subst h; rfl
theorem sF_84 {shp : List aSh} (h : aShp shp) : shp[84]? = some (.inl (2, 1925, [])) := by subst h; rfl
theorem sF_85 {shp : List aSh} (h : aShp shp) : shp[85]? = some (.inl (2, 1925, [])) := by subst h; rfl
theorem sF_86 {shp : List aSh} (h : aShp shp) : shp[86]? = some (.inl (1, 1925, [])) := by subst h; rfl
theorem sF_87 {shp : List aSh} (h : aShp shp) : shp[87]? = some (.inl (1, 1925, [])) := by subst h; rfl
theorem sF_88 {shp : List aSh} (h : aShp shp) : shp[88]? = some (.inr (12, [some (some 89), some (some 90), none, some (some 91), some (some 92), some (some 93), some (some 94), some (some 95), some (some 96), some (some 97), some (some 98), some (some 99), some (some 100), some (some 101), some (some 102), some (some 103), some (some 104), some (some 105), none, none, none, none, none, none, none, none, none, none, some (some 106), some (some 107), none, none, none, none, some (some 108), some (some 109), some (some 110), some (some 111), some (some 112), some (some 113), some (some 114), none, none, some (some 115), some (some 116), some (some 117), none, some (some 118), some (some 119), some (some 120), some (some 121), some (some 122), none, some (some 123), some (some 124), none, none, none, none, some (some 125), some (some 126), some (some 127), some (some 128), some (some 129), some (some 130), some (some 131)])) := by subst h; rfl
theorem sF_89 {shp : List aSh} (h : aShp shp) : shp[89]? = some (.inl (5, 4, [some 10000, some 10001, some 10002, some 10003])) := by subst h; rfl
theorem sF_90 {shp : List aSh} (h : aShp shp) : shp[90]? = some (.inl (1, 4, [])) := by subst h; rfl
theorem sF_91 {shp : List aSh} (h : aShp shp) : shp[91]? = some (.inl (1, 32, [])) := by subst h; rfl
theorem sF_92 {shp : List aSh} (h : aShp shp) : shp[92]? = some (.inl (1, 12, [])) := by subst h; rfl
theorem sF_93 {shp : List aSh} (h : aShp shp) : shp[93]? = some (.inl (1, 12, [])) := by subst h; rfl
theorem sF_94 {shp : List aSh} (h : aShp shp) : shp[94]? = some (.inl (1, 12, [])) := by subst h; rfl
theorem sF_95 {shp : List aSh} (h : aShp shp) : shp[95]? = some (.inl (1, 12, [])) := by subst h; rfl
theorem sF_96 {shp : List aSh} (h : aShp shp) : shp[96]? = some (.inl (1, 12, [])) := by subst h; rfl
theorem sF_97 {shp : List aSh} (h : aShp shp) : shp[97]? = some (.inl (1, 12, [])) := by subst h; rfl
theorem sF_98 {shp : List aSh} (h : aShp shp) : shp[98]? = some (.inl (1, 12, [])) := by subst h; rfl
theorem sF_99 {shp : List aSh} (h : aShp shp) : shp[99]? = some (.inl (1, 26, [])) := by subst h; rfl
theorem sF_100 {shp : List aSh} (h : aShp shp) : shp[100]? = some (.inl (1, 26, [])) := by subst h; rfl
theorem sF_101 {shp : List aSh} (h : aShp shp) : shp[101]? = some (.inl (1, 26, [])) := by subst h; rfl
theorem sF_102 {shp : List aSh} (h : aShp shp) : shp[102]? = some (.inl (1, 10, [])) := by subst h; rfl
theorem sF_103 {shp : List aSh} (h : aShp shp) : shp[103]? = some (.inl (1, 72, [])) := by subst h; rfl
theorem sF_104 {shp : List aSh} (h : aShp shp) : shp[104]? = some (.inl (1, 3, [])) := by subst h; rfl
theorem sF_105 {shp : List aSh} (h : aShp shp) : shp[105]? = some (.inl (1, 700, [])) := by subst h; rfl
theorem sF_106 {shp : List aSh} (h : aShp shp) : shp[106]? = some (.inl (1, 13, [])) := by subst h; rfl
theorem sF_107 {shp : List aSh} (h : aShp shp) : shp[107]? = some (.inl (1, 5, [])) := by subst h; rfl
theorem sF_108 {shp : List aSh} (h : aShp shp) : shp[108]? = some (.inl (1, 6, [])) := by subst h; rfl
theorem sF_109 {shp : List aSh} (h : aShp shp) : shp[109]? = some (.inl (1, 30, [])) := by subst h; rfl
theorem sF_110 {shp : List aSh} (h : aShp shp) : shp[110]? = some (.inl (1, 6, [])) := by subst h; rfl
theorem sF_111 {shp : List aSh} (h : aShp shp) : shp[111]? = some (.inl (1, 6, [])) := by subst h; rfl
theorem sF_112 {shp : List aSh} (h : aShp shp) : shp[112]? = some (.inl (1, 5, [])) := by subst h; rfl
theorem sF_113 {shp : List aSh} (h : aShp shp) : shp[113]? = some (.inl (1, 12, [])) := by subst h; rfl
theorem sF_114 {shp : List aSh} (h : aShp shp) : shp[114]? = some (.inl (1, 12, [])) := by subst h; rfl
theorem sF_115 {shp : List aSh} (h : aShp shp) : shp[115]? = some (.inl (1, 13, [])) := by subst h; rfl
theorem sF_116 {shp : List aSh} (h : aShp shp) : shp[116]? = some (.inl (1, 5, [])) := by subst h; rfl
theorem sF_117 {shp : List aSh} (h : aShp shp) : shp[117]? = some (.inl (1, 5, [])) := by subst h; rfl
theorem sF_118 {shp : List aSh} (h : aShp shp) : shp[118]? = some (.inl (1, 12, [])) := by subst h; rfl
theorem sF_119 {shp : List aSh} (h : aShp shp) : shp[119]? = some (.inl (1, 12, [])) := by subst h; rfl
theorem sF_120 {shp : List aSh} (h : aShp shp) : shp[120]? = some (.inl (1, 12, [])) := by subst h; rfl
theorem sF_121 {shp : List aSh} (h : aShp shp) : shp[121]? = some (.inl (1, 12, [])) := by subst h; rfl
theorem sF_122 {shp : List aSh} (h : aShp shp) : shp[122]? = some (.inl (1, 1925, [])) := by subst h; rfl
theorem sF_123 {shp : List aSh} (h : aShp shp) : shp[123]? = some (.inl (1, 11550, [])) := by subst h; rfl
theorem sF_124 {shp : List aSh} (h : aShp shp) : shp[124]? = some (.inl (1, 5, [])) := by subst h; rfl
theorem sF_125 {shp : List aSh} (h : aShp shp) : shp[125]? = some (.inl (1, 13, [])) := by subst h; rfl
theorem sF_126 {shp : List aSh} (h : aShp shp) : shp[126]? = some (.inl (1, 5, [])) := by subst h; rfl
theorem sF_127 {shp : List aSh} (h : aShp shp) : shp[127]? = some (.inl (1, 12, [])) := by subst h; rfl
theorem sF_128 {shp : List aSh} (h : aShp shp) : shp[128]? = some (.inl (1, 12, [])) := by subst h; rfl
theorem sF_129 {shp : List aSh} (h : aShp shp) : shp[129]? = some (.inl (1, 12, [])) := by subst h; rfl
theorem sF_130 {shp : List aSh} (h : aShp shp) : shp[130]? = some (.inl (1, 12, [])) := by subst h; rfl
theorem sF_131 {shp : List aSh} (h : aShp shp) : shp[131]? = some (.inl (1, 3, [])) := by subst h; rfl
theorem sF_132 {shp : List aSh} (h : aShp shp) : shp[132]? = some (.inl (2, 1, [])) := by subst h; rfl
theorem rs_7 : ∀ {n : Nat}, n < 6 → ([some 15, some 16, some 17, some 18, some 19, some 20] : List (Option Nat))[n]? = some (some (15 + n)) := by decide
theorem so_15 {shp : List aSh} (hS : aShp shp) {n : Nat} (h : n < 6) : shp[15 + n]? = some (.inr (8, [none, none, none, none, none, none, none])) := by
  subst hS
  exact match n, h with
    | 0, _ => rfl
    | 1, _ => rfl
    | 2, _ => rfl
    | 3, _ => rfl
    | 4, _ => rfl
    | 5, _ => rfl
    | k + 6, h => absurd h (by omega)
theorem rs_26 : ∀ {n : Nat}, n < 6 → ([some 34, some 35, some 36, some 37, some 38, some 39] : List (Option Nat))[n]? = some (some (34 + n)) := by decide
theorem so_34 {shp : List aSh} (hS : aShp shp) {n : Nat} (h : n < 6) : shp[34 + n]? = some (.inr (8, [none, none, none, none, none, none, none])) := by
  subst hS
  exact match n, h with
    | 0, _ => rfl
    | 1, _ => rfl
    | 2, _ => rfl
    | 3, _ => rfl
    | 4, _ => rfl
    | 5, _ => rfl
    | k + 6, h => absurd h (by omega)
theorem rs_89 : ∀ {n : Nat}, n < 4 → ([some 10000, some 10001, some 10002, some 10003] : List (Option Nat))[n]? = some (some (10000 + n)) := by decide
def gSr : List (String × Nat × String × Nat) := [(RX11, 96, "the tape has not so many bytes", 10013), (RX11, 248, "a prize is 0 to 9999", 10015), (RX11, 312, "days are 0 to 100", 10016), (RX11, 323, "there is no such thing", 10014), (RX7, 56, "town", 10005), (RX7, 65, "sort", 10006), (RX7, 70, "herb", 10007), (RX7, 72, "garden", 10008), (RX7, 77, "plant", 10009), (RX7, 82, "gate", 10011), (RX7, 87, "mask", 10012), (RX7, 95, "fade", 10000), (RX7, 106, "gain", 10001), (RX7, 110, "against", 10002), (RX7, 114, "cold", 10003), (RX7, 118, "winds", 10004), (RX7, 203, "of", 10010), (RX12, 9, "fade", 10000), (RX12, 11, "gain", 10001), (RX12, 13, "against", 10002), (RX12, 15, "cold", 10003), (RX12, 240, "herb", 10007), (RX12, 254, "of", 10010), (RX12, 259, "winds", 10004), (RX12, 261, "town", 10005), (RX12, 273, "sort", 10006), (RX12, 278, "garden", 10008), (RX12, 280, "plant", 10009), (RX12, 285, "gate", 10011), (RX12, 286, "mask", 10012)]
def sBy : List (List Int32) := [[102, 97, 100, 101], [103, 97, 105, 110], [97, 103, 97, 105, 110, 115, 116], [99, 111, 108, 100], [119, 105, 110, 100, 115], [116, 111, 119, 110], [115, 111, 114, 116], [104, 101, 114, 98], [103, 97, 114, 100, 101, 110], [112, 108, 97, 110, 116], [111, 102], [103, 97, 116, 101], [109, 97, 115, 107]]
def sLenN (w : Nat) : Nat := (sBy.getD w []).length
def sLen (w : Nat) : Int32 := Int32.ofNat (sLenN w)
def sCh (w : Nat) (i : Int32) : Int32 := (sBy.getD w []).getD i.toNatClampNeg 0
def gStr (G : aG) : Prop := (∀ q ∈ gSr, vk_R q.1 q.2.1 q.2.2.1 (gAd G q.2.2.2) (gs G)) ∧ (∀ w, w < 13 → va_O "java/lang/String" (gK G w) (aA G) (gs G) (gs G).heap ∧ va_OF "java/lang/String" "coder" "B" (.int 0) (gK G w) (aA G) (gs G) (gs G).heap ∧ va_OF "java/lang/String" "value" "[B" (.ref (gV G w)) (gK G w) (aA G) (gs G) (gs G).heap ∧ va_T .byte (gV G w) (sLenN w) (fun j => .int ((sBy.getD w []).getD j 0)) (aA G) (gs G) (gs G).heap) ∧ va_Z "java/lang/String" "COMPACT_STRINGS" "Z" (.int 1) (aA G) (gs G) (gs G).heap ∧ va_Zq "jdk/internal/util/Preconditions" "SIOOBE_FORMATTER" "Ljava/util/function/BiFunction;" (aA G) (gs G) (gs G).heap
def gOK (G : aG) : Prop := va_K (gD G) vwCl (gTy G) (gs G) ∧ va_X (gb G) (gL G) (gx G) (gs G) (gs G).heap ∧ gb G < glo G ∧ gEx G ∧ gStr G
theorem gS_RX11_96 {G : aG} (hG : gOK G) : vk_R RX11 96 "the tape has not so many bytes" (gAd G (10000 + 13)) (gs G) := hG.2.2.2.2.1 (RX11, 96, "the tape has not so many bytes", 10000 + 13) (by simp [gSr])
theorem gS_RX11_248 {G : aG} (hG : gOK G) : vk_R RX11 248 "a prize is 0 to 9999" (gAd G (10000 + 15)) (gs G) := hG.2.2.2.2.1 (RX11, 248, "a prize is 0 to 9999", 10000 + 15) (by simp [gSr])
theorem gS_RX11_312 {G : aG} (hG : gOK G) : vk_R RX11 312 "days are 0 to 100" (gAd G (10000 + 16)) (gs G) := hG.2.2.2.2.1 (RX11, 312, "days are 0 to 100", 10000 + 16) (by simp [gSr])
theorem gS_RX11_323 {G : aG} (hG : gOK G) : vk_R RX11 323 "there is no such thing" (gAd G (10000 + 14)) (gs G) := hG.2.2.2.2.1 (RX11, 323, "there is no such thing", 10000 + 14) (by simp [gSr])
theorem gS_RX7_56 {G : aG} (hG : gOK G) : vk_R RX7 56 "town" (gAd G (10000 + 5)) (gs G) := hG.2.2.2.2.1 (RX7, 56, "town", 10000 + 5) (by simp [gSr])
theorem gS_RX7_65 {G : aG} (hG : gOK G) : vk_R RX7 65 "sort" (gAd G (10000 + 6)) (gs G) := hG.2.2.2.2.1 (RX7, 65, "sort", 10000 + 6) (by simp [gSr])
theorem gS_RX7_70 {G : aG} (hG : gOK G) : vk_R RX7 70 "herb" (gAd G (10000 + 7)) (gs G) := hG.2.2.2.2.1 (RX7, 70, "herb", 10000 + 7) (by simp [gSr])
theorem gS_RX7_72 {G : aG} (hG : gOK G) : vk_R RX7 72 "garden" (gAd G (10000 + 8)) (gs G) := hG.2.2.2.2.1 (RX7, 72, "garden", 10000 + 8) (by simp [gSr])
theorem gS_RX7_77 {G : aG} (hG : gOK G) : vk_R RX7 77 "plant" (gAd G (10000 + 9)) (gs G) := hG.2.2.2.2.1 (RX7, 77, "plant", 10000 + 9) (by simp [gSr])
theorem gS_RX7_82 {G : aG} (hG : gOK G) : vk_R RX7 82 "gate" (gAd G (10000 + 11)) (gs G) := hG.2.2.2.2.1 (RX7, 82, "gate", 10000 + 11) (by simp [gSr])
theorem gS_RX7_87 {G : aG} (hG : gOK G) : vk_R RX7 87 "mask" (gAd G (10000 + 12)) (gs G) := hG.2.2.2.2.1 (RX7, 87, "mask", 10000 + 12) (by simp [gSr])
theorem gS_RX7_95 {G : aG} (hG : gOK G) : vk_R RX7 95 "fade" (gAd G (10000 + 0)) (gs G) := hG.2.2.2.2.1 (RX7, 95, "fade", 10000 + 0) (by simp [gSr])
theorem gS_RX7_106 {G : aG} (hG : gOK G) : vk_R RX7 106 "gain" (gAd G (10000 + 1)) (gs G) := hG.2.2.2.2.1 (RX7, 106, "gain", 10000 + 1) (by simp [gSr])
theorem gS_RX7_110 {G : aG} (hG : gOK G) : vk_R RX7 110 "against" (gAd G (10000 + 2)) (gs G) := hG.2.2.2.2.1 (RX7, 110, "against", 10000 + 2) (by simp [gSr])
theorem gS_RX7_114 {G : aG} (hG : gOK G) : vk_R RX7 114 "cold" (gAd G (10000 + 3)) (gs G) := hG.2.2.2.2.1 (RX7, 114, "cold", 10000 + 3) (by simp [gSr])
theorem gS_RX7_118 {G : aG} (hG : gOK G) : vk_R RX7 118 "winds" (gAd G (10000 + 4)) (gs G) := hG.2.2.2.2.1 (RX7, 118, "winds", 10000 + 4) (by simp [gSr])
theorem gS_RX7_203 {G : aG} (hG : gOK G) : vk_R RX7 203 "of" (gAd G (10000 + 10)) (gs G) := hG.2.2.2.2.1 (RX7, 203, "of", 10000 + 10) (by simp [gSr])
theorem gS_RX12_9 {G : aG} (hG : gOK G) : vk_R RX12 9 "fade" (gAd G (10000 + 0)) (gs G) := hG.2.2.2.2.1 (RX12, 9, "fade", 10000 + 0) (by simp [gSr])
theorem gS_RX12_11 {G : aG} (hG : gOK G) : vk_R RX12 11 "gain" (gAd G (10000 + 1)) (gs G) := hG.2.2.2.2.1 (RX12, 11, "gain", 10000 + 1) (by simp [gSr])
theorem gS_RX12_13 {G : aG} (hG : gOK G) : vk_R RX12 13 "against" (gAd G (10000 + 2)) (gs G) := hG.2.2.2.2.1 (RX12, 13, "against", 10000 + 2) (by simp [gSr])
theorem gS_RX12_15 {G : aG} (hG : gOK G) : vk_R RX12 15 "cold" (gAd G (10000 + 3)) (gs G) := hG.2.2.2.2.1 (RX12, 15, "cold", 10000 + 3) (by simp [gSr])
theorem gS_RX12_240 {G : aG} (hG : gOK G) : vk_R RX12 240 "herb" (gAd G (10000 + 7)) (gs G) := hG.2.2.2.2.1 (RX12, 240, "herb", 10000 + 7) (by simp [gSr])
theorem gS_RX12_254 {G : aG} (hG : gOK G) : vk_R RX12 254 "of" (gAd G (10000 + 10)) (gs G) := hG.2.2.2.2.1 (RX12, 254, "of", 10000 + 10) (by simp [gSr])
theorem gS_RX12_259 {G : aG} (hG : gOK G) : vk_R RX12 259 "winds" (gAd G (10000 + 4)) (gs G) := hG.2.2.2.2.1 (RX12, 259, "winds", 10000 + 4) (by simp [gSr])
theorem gS_RX12_261 {G : aG} (hG : gOK G) : vk_R RX12 261 "town" (gAd G (10000 + 5)) (gs G) := hG.2.2.2.2.1 (RX12, 261, "town", 10000 + 5) (by simp [gSr])
theorem gS_RX12_273 {G : aG} (hG : gOK G) : vk_R RX12 273 "sort" (gAd G (10000 + 6)) (gs G) := hG.2.2.2.2.1 (RX12, 273, "sort", 10000 + 6) (by simp [gSr])
theorem gS_RX12_278 {G : aG} (hG : gOK G) : vk_R RX12 278 "garden" (gAd G (10000 + 8)) (gs G) := hG.2.2.2.2.1 (RX12, 278, "garden", 10000 + 8) (by simp [gSr])
theorem gS_RX12_280 {G : aG} (hG : gOK G) : vk_R RX12 280 "plant" (gAd G (10000 + 9)) (gs G) := hG.2.2.2.2.1 (RX12, 280, "plant", 10000 + 9) (by simp [gSr])
theorem gS_RX12_285 {G : aG} (hG : gOK G) : vk_R RX12 285 "gate" (gAd G (10000 + 11)) (gs G) := hG.2.2.2.2.1 (RX12, 285, "gate", 10000 + 11) (by simp [gSr])
theorem gS_RX12_286 {G : aG} (hG : gOK G) : vk_R RX12 286 "mask" (gAd G (10000 + 12)) (gs G) := hG.2.2.2.2.1 (RX12, 286, "mask", 10000 + 12) (by simp [gSr])
