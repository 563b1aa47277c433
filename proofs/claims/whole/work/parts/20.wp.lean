/-! PURE SIDE: reading answers; whole numbers for the machine's -/
section WPL
theorem Ok.mono {α : Type} {o : Option α} {Q Q' : α → Prop} (h : Ok o Q) (k : ∀ a, Q a → Q' a) : Ok o Q' := by obtain ⟨a, e, q⟩ := h; exact ⟨a, e, k a q⟩
theorem ok_some {α : Type} {a : α} {Q : α → Prop} : Ok (some a) Q = Q a := propext ⟨fun h => Ok.dn h, fun h => ⟨a, rfl, h⟩⟩
theorem ok_gd {α : Type} {b : Bool} {o : Option α} {Q : α → Prop} : Ok (aGd b o) Q = (b = true ∧ Ok o Q) := propext ⟨fun h => Ok.gd h, fun h => by obtain ⟨rfl, h⟩ := h; exact h⟩
theorem ok_let {α β : Type} {d : α} {k : α → Option β} {Q : β → Prop} : Ok (aLet d k) Q = Ok (k d) Q := rfl
theorem ok_bind {α β : Type} {o : Option α} {k : α → Option β} {Q : β → Prop} : Ok (o.bind k) Q = Ok o (fun a => Ok (k a) Q) := propext ⟨fun h => Ok.bind h, fun h => by obtain ⟨a, rfl, h⟩ := h; exact h⟩
theorem ok_bi {α β : Type} {o : Option (α × aD)} {k : α → aD → Option β} {Q : β → Prop} : Ok (aBi o k) Q = Ok o (fun r => Ok (k r.1 r.2) Q) := ok_bind
theorem ok_biI {α β : Type} {o : Option (α × aD)} {k : α → aD → Option β} {Q : β → Prop} (h : Ok o (fun r => Ok (k r.1 r.2) Q)) : Ok (aBi o k) Q := by rw [ok_bi]; exact h
theorem ok_bindI {α β : Type} {o : Option α} {k : α → Option β} {Q : β → Prop} (h : Ok o (fun a => Ok (k a) Q)) : Ok (o.bind k) Q := by rw [ok_bind]; exact h
theorem ok_someI {α : Type} {a : α} {Q : α → Prop} (h : Q a) : Ok (some a) Q := ⟨a, rfl, h⟩
theorem ok_gdI {α : Type} {b : Bool} {o : Option α} {Q : α → Prop} (h1 : b = true) (h : Ok o Q) : Ok (aGd b o) Q := by rw [ok_gd]; exact ⟨h1, h⟩
theorem e_bi {α β : Type} {y : α} {D : aD} {k : α → aD → Option β} : aBi (some (y, D)) k = k y D := rfl
theorem e_bind {α β : Type} {a : α} {k : α → Option β} : (some a).bind k = k a := rfl
theorem e_let {α β : Type} {d : α} {k : α → Option β} : aLet d k = k d := rfl
theorem e_gd {α : Type} {b : Bool} {o : Option α} (h : b = true) : aGd b o = o := by subst h; rfl
theorem e_tr {β : Type} {y : Int32} {D : aD} {k : Int32 → aD → Option ((String ⊕ β) × aD)} : aTry (some (.inr y, D)) k = k y D := rfl
theorem e_tl {β : Type} {E : String} {D : aD} {k : Int32 → aD → Option ((String ⊕ β) × aD)} : aTry (some (.inl E, D)) k = some (.inl E, D) := rfl
theorem ifp {α : Sort _} {c : Prop} {inst : Decidable c} {a b : α} (h : c) : @ite α c inst a b = a := if_pos h
theorem ifn {α : Sort _} {c : Prop} {inst : Decidable c} {a b : α} (h : ¬ c) : @ite α c inst a b = b := if_neg h
theorem e_gdt {α : Type} {o : Option α} : aGd true o = o := rfl
theorem e_ifT {α : Sort _} {inst : Decidable True} {a b : α} : @ite α True inst a b = a := if_pos trivial
theorem e_ifF {α : Sort _} {inst : Decidable False} {a b : α} : @ite α False inst a b = b := if_neg (fun h => h)
theorem ok_if {α : Type} {c : Prop} {inst : Decidable c} {a b : Option α} {Q : α → Prop} : Ok (@ite _ c inst a b) Q = ((c → Ok a Q) ∧ (¬ c → Ok b Q)) := by
  by_cases h : c
  · rw [ifp h]; exact propext ⟨fun q => ⟨fun _ => q, fun z => absurd h z⟩, fun q => q.1 h⟩
  · rw [ifn h]; exact propext ⟨fun q => ⟨fun z => absurd z h, fun _ => q⟩, fun q => q.2 h⟩
theorem ok_2 {α : Type} {o : Option (α × aD)} {K : α → aD → Prop} : Ok2 o K = Ok o (fun r => K r.1 r.2) := propext ⟨Ok2.ok, Ok2.of⟩
theorem ok_ift {α : Type} {c : Prop} {inst : Decidable c} {a b : Option α} {Q : α → Prop} (h : c) : Ok (@ite _ c inst a b) Q = Ok a Q := by rw [ifp h]
theorem ok_ifn {α : Type} {c : Prop} {inst : Decidable c} {a b : Option α} {Q : α → Prop} (h : ¬ c) : Ok (@ite _ c inst a b) Q = Ok b Q := by rw [ifn h]
theorem ok_try {β : Type} {o : Option ((String ⊕ Int32) × aD)} {k : Int32 → aD → Option ((String ⊕ β) × aD)} {Q : ((String ⊕ β) × aD) → Prop} : Ok (aTry o k) Q = Ok o (fun r => match r.1 with
    | .inl E => Q (.inl E, r.2)
    | .inr y => Ok (k y r.2) Q) := by
  show Ok (o.bind _) Q = _
  rw [ok_bind]
  refine congrArg (Ok o) (funext fun r => ?_)
  obtain ⟨q, D⟩ := r
  cases q with
  | inl E => exact ok_some
  | inr y => rfl
/-- a loop of at most n turns: what is kept goes by the number of the turn -/
theorem ok_lp {σ ρ : Type} {body : σ → Option (σ ⊕ ρ)} {K : ρ → Prop} {s : σ} (Inv : Nat → σ → Prop) (n : Nat) (hn : n < 999999999) (h0 : Inv 0 s)
    (hs : ∀ (i : Nat) (s : σ), i ≤ n → Inv i s → Ok (body s) (fun r => (∃ s', r = .inl s' ∧ i < n ∧ Inv (i + 1) s') ∨ ∃ q, r = .inr q ∧ K q)) : Ok (aLp body s) K := by
  have key : ∀ (m f i : Nat) (s : σ), m + i = n → m < f → Inv i s → Ok (aIt body f s) K := by
    intro m
    induction m with
    | zero =>
      intro f i s hi hf hI
      obtain ⟨f, rfl⟩ : ∃ g, f = g + 1 := ⟨f - 1, by omega⟩
      obtain ⟨r, e, h⟩ := hs i s (by omega) hI
      rcases h with ⟨s', -, h2, -⟩ | ⟨q, rfl, h⟩
      · omega
      · exact ⟨q, by rw [aIt, e], h⟩
    | succ m ih =>
      intro f i s hi hf hI
      obtain ⟨f, rfl⟩ : ∃ g, f = g + 1 := ⟨f - 1, by omega⟩
      obtain ⟨r, e, h⟩ := hs i s (by omega) hI
      rcases h with ⟨s', rfl, h2, h3⟩ | ⟨q, rfl, h⟩
      · obtain ⟨q, e2, h4⟩ := ih f (i + 1) s' (by omega) (by omega) h3
        exact ⟨q, by rw [aIt, e]; exact e2, h4⟩
      · exact ⟨q, by rw [aIt, e], h⟩
  refine key n aN 0 s (by omega) ?_ h0
  show n < 1000000000
  omega
/-- a whole number in the machine -/
def cI (a : Int) : Int32 := Int32.ofInt a
theorem cI_of (x : Int32) : ∃ a : Int, x = cI a ∧ -2147483648 ≤ a ∧ a < 2147483648 := ⟨x.toInt, (Int32.ofInt_toInt x).symm, x.le_toInt, x.toInt_lt⟩
theorem cI_toInt {a : Int} (h1 : -2147483648 ≤ a) (h2 : a < 2147483648) : (cI a).toInt = a := Int32.toInt_ofInt_of_le h1 h2
theorem cI_add (a b : Int) : cI a + cI b = cI (a + b) := (Int32.ofInt_add a b).symm
theorem cI_sub (a b : Int) : cI a - cI b = cI (a - b) := (Int32.ofInt_sub a b).symm
theorem cI_mul (a b : Int) : cI a * cI b = cI (a * b) := (Int32.ofInt_mul a b).symm
theorem cI_neg (a : Int) : -cI a = cI (-a) := (Int32.ofInt_neg a).symm
theorem cI_le {a b : Int} (h1 : -2147483648 ≤ a) (h2 : a < 2147483648) (h3 : -2147483648 ≤ b) (h4 : b < 2147483648) : (cI a ≤ cI b) = (a ≤ b) := by
  rw [Int32.le_iff_toInt_le, cI_toInt h1 h2, cI_toInt h3 h4]
theorem cI_lt {a b : Int} (h1 : -2147483648 ≤ a) (h2 : a < 2147483648) (h3 : -2147483648 ≤ b) (h4 : b < 2147483648) : (cI a < cI b) = (a < b) := by
  rw [Int32.lt_iff_toInt_lt, cI_toInt h1 h2, cI_toInt h3 h4]
theorem cI_eq {a b : Int} (h1 : -2147483648 ≤ a) (h2 : a < 2147483648) (h3 : -2147483648 ≤ b) (h4 : b < 2147483648) : (cI a = cI b) = (a = b) := by
  rw [← Int32.toInt_inj, cI_toInt h1 h2, cI_toInt h3 h4]
theorem cI_ne {a b : Int} (h1 : -2147483648 ≤ a) (h2 : a < 2147483648) (h3 : -2147483648 ≤ b) (h4 : b < 2147483648) : (cI a ≠ cI b) = (a ≠ b) := by
  show (¬ (cI a = cI b)) = (¬ (a = b))
  rw [cI_eq h1 h2 h3 h4]
theorem cI_nat {a : Int} (h1 : 0 ≤ a) (h2 : a < 2147483648) : (cI a).toNatClampNeg = a.toNat := Int32.toNatClampNeg_ofInt_of_le (by omega) h2
theorem cI_in {a : Int} {n : Nat} (h1 : 0 ≤ a) (h2 : a < n) (h3 : a < 2147483648) : (aIn (cI a) n = true) = True := by
  have e0 : ¬ (cI a < 0) := by
    show ¬ (cI a < cI 0)
    rw [cI_lt (by omega) h3 (by omega) (by omega)]
    omega
  have e1 : ¬ (n ≤ (cI a).toNatClampNeg) := by
    rw [cI_nat h1 h3]
    omega
  simp [aIn, e0, e1]
theorem cI_inT {a : Int} {n : Nat} (h1 : 0 ≤ a) (h2 : a < n) (h3 : a < 2147483648) : aIn (cI a) n = true := of_eq_true (cI_in h1 h2 h3)
theorem cI_div {a b : Int} (h1 : 0 ≤ a) (h2 : a < 2147483648) (h3 : 0 < b) (h4 : b < 2147483648) : cI a / cI b = cI (a / b) := by
  rw [← Int32.toInt_inj, Int32.toInt_div_of_ne_right, cI_toInt (by omega) h2, cI_toInt (by omega) h4, Int.tdiv_eq_ediv_of_nonneg h1, cI_toInt]
  · have := Int.ediv_nonneg h1 (Int.le_of_lt h3)
    omega
  · have := Int.ediv_le_self b h1
    omega
  · show cI b ≠ cI (-1)
    rw [cI_ne (by omega) (by omega) (by omega) (by omega)]
    omega
theorem cI_rem {a b : Int} (h1 : 0 ≤ a) (h2 : a < 2147483648) (h3 : 0 < b) (h4 : b < 2147483648) : cI a - cI a / cI b * cI b = cI (a % b) := by
  rw [cI_div h1 h2 h3 h4, cI_mul, cI_sub, Int.emod_def, Int.mul_comm b]
theorem gI_pI (D : aD) (k j k' j' : Nat) (x : Int32) : gI (pI D k j x) k' j' = if k' = k then (if j' = j then x else gI D k' j') else gI D k' j' := by
  unfold gI pI
  by_cases h : k' = k
  · subst h
    simp [upd]
  · simp [h]
theorem gI_ne {D : aD} {k j k' j' : Nat} {x : Int32} (h : k' ≠ k) : gI (pI D k j x) k' j' = gI D k' j' := by rw [gI_pI, if_neg h]
theorem gI_nj {D : aD} {k j j' : Nat} {x : Int32} (h : j' ≠ j) : gI (pI D k j x) k j' = gI D k j' := by rw [gI_pI, if_pos rfl, if_neg h]
theorem gI_eq {D : aD} {k j : Nat} {x : Int32} : gI (pI D k j x) k j = x := by rw [gI_pI, if_pos rfl, if_pos rfl]
theorem gI_pJ (D : aD) (k j k' j' : Nat) (x : Int64) : gI (pJ D k j x) k' j' = gI D k' j' := rfl
theorem gI_pA (D : aD) (k k' j' : Nat) (g : Nat → Int32) : gI (pA D k g) k' j' = if k' = k then g j' else gI D k' j' := by
  unfold gI pA
  by_cases h : k' = k
  · simp [h]
  · simp [h]
theorem pI_2 (D : aD) (k j : Nat) (x : Int32) : (pI D k j x).2 = D.2 := rfl
theorem pA_2 (D : aD) (k : Nat) (g : Nat → Int32) : (pA D k g).2 = D.2 := rfl
theorem gJ_eq {D : aD} {k j : Nat} {x : Int64} : gJ (pJ D k j x) k j = x := by simp [gJ, pJ, vp_updL]
theorem gJ_of {D D' : aD} (h : D'.2 = D.2) (k j : Nat) : gJ D' k j = gJ D k j := by unfold gJ; rw [h]

theorem cL0 : (0 : Int32) = cI 0 := rfl
theorem cL1 : (1 : Int32) = cI 1 := rfl
theorem cL2 : (2 : Int32) = cI 2 := rfl
theorem cL3 : (3 : Int32) = cI 3 := rfl
theorem cL4 : (4 : Int32) = cI 4 := rfl
theorem cL5 : (5 : Int32) = cI 5 := rfl
theorem cL6 : (6 : Int32) = cI 6 := rfl
theorem cL7 : (7 : Int32) = cI 7 := rfl
theorem cL8 : (8 : Int32) = cI 8 := rfl
theorem cL9 : (9 : Int32) = cI 9 := rfl
theorem cL10 : (10 : Int32) = cI 10 := rfl
theorem cL11 : (11 : Int32) = cI 11 := rfl
theorem cL12 : (12 : Int32) = cI 12 := rfl
theorem cL13 : (13 : Int32) = cI 13 := rfl
theorem cL14 : (14 : Int32) = cI 14 := rfl
theorem cL15 : (15 : Int32) = cI 15 := rfl
theorem cL16 : (16 : Int32) = cI 16 := rfl
theorem cL17 : (17 : Int32) = cI 17 := rfl
theorem cL18 : (18 : Int32) = cI 18 := rfl
theorem cL19 : (19 : Int32) = cI 19 := rfl
theorem cL20 : (20 : Int32) = cI 20 := rfl
theorem cL21 : (21 : Int32) = cI 21 := rfl
theorem cL22 : (22 : Int32) = cI 22 := rfl
theorem cL23 : (23 : Int32) = cI 23 := rfl
theorem cL24 : (24 : Int32) = cI 24 := rfl
theorem cL25 : (25 : Int32) = cI 25 := rfl
theorem cL26 : (26 : Int32) = cI 26 := rfl
theorem cL27 : (27 : Int32) = cI 27 := rfl
theorem cL28 : (28 : Int32) = cI 28 := rfl
theorem cL29 : (29 : Int32) = cI 29 := rfl
theorem cL30 : (30 : Int32) = cI 30 := rfl
theorem cL31 : (31 : Int32) = cI 31 := rfl
theorem cL32 : (32 : Int32) = cI 32 := rfl
theorem cL33 : (33 : Int32) = cI 33 := rfl
theorem cL34 : (34 : Int32) = cI 34 := rfl
theorem cL35 : (35 : Int32) = cI 35 := rfl
theorem cL36 : (36 : Int32) = cI 36 := rfl
theorem cL37 : (37 : Int32) = cI 37 := rfl
theorem cL38 : (38 : Int32) = cI 38 := rfl
theorem cL39 : (39 : Int32) = cI 39 := rfl
theorem cL40 : (40 : Int32) = cI 40 := rfl
theorem cL41 : (41 : Int32) = cI 41 := rfl
theorem cL42 : (42 : Int32) = cI 42 := rfl
theorem cL43 : (43 : Int32) = cI 43 := rfl
theorem cL44 : (44 : Int32) = cI 44 := rfl
theorem cL45 : (45 : Int32) = cI 45 := rfl
theorem cL46 : (46 : Int32) = cI 46 := rfl
theorem cL47 : (47 : Int32) = cI 47 := rfl
theorem cL48 : (48 : Int32) = cI 48 := rfl
theorem cL49 : (49 : Int32) = cI 49 := rfl
theorem cL50 : (50 : Int32) = cI 50 := rfl
theorem cL51 : (51 : Int32) = cI 51 := rfl
theorem cL52 : (52 : Int32) = cI 52 := rfl
theorem cL64 : (64 : Int32) = cI 64 := rfl
theorem cL99 : (99 : Int32) = cI 99 := rfl
theorem cL100 : (100 : Int32) = cI 100 := rfl
theorem cL700 : (700 : Int32) = cI 700 := rfl
theorem cL1000 : (1000 : Int32) = cI 1000 := rfl
theorem cL9999 : (9999 : Int32) = cI 9999 := rfl
theorem cL10000 : (10000 : Int32) = cI 10000 := rfl
theorem cL1024 : (1024 : Int32) = cI 1024 := rfl
theorem cL1925 : (1925 : Int32) = cI 1925 := rfl
theorem cLm1 : (-1 : Int32) = cI (-1) := rfl
theorem cLm8 : (-8 : Int32) = cI (-8) := rfl
theorem cLm2 : (-2 : Int32) = cI (-2) := rfl
theorem cX0 : (cI 0).toNatClampNeg = 0 := rfl
theorem cX1 : (cI 1).toNatClampNeg = 1 := rfl
theorem cX2 : (cI 2).toNatClampNeg = 2 := rfl
theorem cX3 : (cI 3).toNatClampNeg = 3 := rfl
theorem cX4 : (cI 4).toNatClampNeg = 4 := rfl
theorem cX5 : (cI 5).toNatClampNeg = 5 := rfl
theorem cX6 : (cI 6).toNatClampNeg = 6 := rfl
theorem cX7 : (cI 7).toNatClampNeg = 7 := rfl
theorem cX8 : (cI 8).toNatClampNeg = 8 := rfl
theorem cX9 : (cI 9).toNatClampNeg = 9 := rfl
theorem cX10 : (cI 10).toNatClampNeg = 10 := rfl
theorem cX11 : (cI 11).toNatClampNeg = 11 := rfl
theorem cX12 : (cI 12).toNatClampNeg = 12 := rfl
theorem cX13 : (cI 13).toNatClampNeg = 13 := rfl
theorem cX14 : (cI 14).toNatClampNeg = 14 := rfl
theorem cX15 : (cI 15).toNatClampNeg = 15 := rfl
theorem cX16 : (cI 16).toNatClampNeg = 16 := rfl
theorem cX17 : (cI 17).toNatClampNeg = 17 := rfl
theorem cX18 : (cI 18).toNatClampNeg = 18 := rfl
theorem cX19 : (cI 19).toNatClampNeg = 19 := rfl
theorem cX20 : (cI 20).toNatClampNeg = 20 := rfl
theorem cX21 : (cI 21).toNatClampNeg = 21 := rfl
theorem cX22 : (cI 22).toNatClampNeg = 22 := rfl
theorem cX23 : (cI 23).toNatClampNeg = 23 := rfl
theorem cX24 : (cI 24).toNatClampNeg = 24 := rfl
theorem cX25 : (cI 25).toNatClampNeg = 25 := rfl
theorem cX29 : (cI 29).toNatClampNeg = 29 := rfl
theorem cX30 : (cI 30).toNatClampNeg = 30 := rfl
theorem cX31 : (cI 31).toNatClampNeg = 31 := rfl
theorem cX32 : (cI 32).toNatClampNeg = 32 := rfl
theorem cX36 : (cI 36).toNatClampNeg = 36 := rfl
end WPL
