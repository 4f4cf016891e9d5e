-- ===== the class's object graph: a tag an address =====
/-- told; the number drawn from; no FAIR was told yet; images' numbers -/
abbrev GH : Type := Nat × Int32 × Prop × (Nat → Option Int32)
abbrev OK1 (cs : Nat → ClassId) (g : GH) (τ : Nat → Nat) (q : Nat) (e : va_E) : Prop := ∃ (tape_ : Nat), ∃ (fairReader_ : Nat), ∃ (ruleReader_ : Nat), ∃ (rules_ : Nat), ∃ (ruleCount_ : Int32), ∃ (scene_ : Nat), ∃ (spare_ : Nat), ∃ (past_ : Nat), ∃ (pastFirst_ : Int32), ∃ (pastCount_ : Int32), ∃ (trials_ : Nat), ∃ (images_ : Nat), ∃ (pairs_ : Nat), ∃ (walker_ : Nat), ∃ (market_ : Nat), e = .inr (11, [.ref tape_, .ref fairReader_, .ref ruleReader_, .ref rules_, .int ruleCount_, .ref g.1, .ref scene_, .ref spare_, .ref past_, .int pastFirst_, .int pastCount_, .ref trials_, .ref images_, .ref pairs_, .ref walker_, .ref market_, .int g.2.1]) ∧ (τ tape_ = 2) ∧ (τ fairReader_ = 4) ∧ (τ ruleReader_ = 5) ∧ (τ rules_ = 7) ∧ (IV 0 6 ruleCount_) ∧ (τ g.1 = 40) ∧ (τ scene_ = 8) ∧ (τ spare_ = 14) ∧ (τ past_ = 20) ∧ (IV 0 19 pastFirst_) ∧ (IV 0 20 pastCount_) ∧ (τ trials_ = 21) ∧ (τ images_ = 26) ∧ (τ pairs_ = 27) ∧ (τ walker_ = 29) ∧ (τ market_ = 34) ∧ (IV 0 2147483647 g.2.1)
abbrev OK2 (cs : Nat → ClassId) (g : GH) (τ : Nat → Nat) (q : Nat) (e : va_E) : Prop := ∃ (bytes_ : Nat), ∃ (length_ : Int32), ∃ (place_ : Int32), ∃ (fault_ : Int32), e = .inr (7, [.ref bytes_, .int length_, .int place_, .int fault_]) ∧ (τ bytes_ = 3) ∧ (IV 0 400 length_) ∧ (IV 0 400 place_) ∧ (IV 0 3205 fault_)
abbrev OK3 (cs : Nat → ClassId) (g : GH) (τ : Nat → Nat) (q : Nat) (e : va_E) : Prop := ∃ (f : Nat → Int32), e = .inl (cs 0, 400, .inl f) ∧ (CI 400 0 255 f)
abbrev OK4 (cs : Nat → ClassId) (g : GH) (τ : Nat → Nat) (q : Nat) (e : va_E) : Prop := ∃ (tape_ : Value), ∃ (told_ : Value), ∃ (kindsTold_ : Int32), e = .inr (0, [tape_, told_, .int kindsTold_])
abbrev OK5 (cs : Nat → ClassId) (g : GH) (τ : Nat → Nat) (q : Nat) (e : va_E) : Prop := ∃ (tape_ : Value), ∃ (code_ : Nat), ∃ (length_ : Int32), ∃ (parts_ : Int32), e = .inr (5, [tape_, .ref code_, .int length_, .int parts_]) ∧ (τ code_ = 6) ∧ (IV 0 400 length_)
abbrev OK6 (cs : Nat → ClassId) (g : GH) (τ : Nat → Nat) (q : Nat) (e : va_E) : Prop := ∃ (f : Nat → Int32), e = .inl (cs 0, 400, .inl f)
abbrev OK7 (cs : Nat → ClassId) (g : GH) (τ : Nat → Nat) (q : Nat) (e : va_E) : Prop := ∃ (f : Nat → Option Nat), e = .inl (cs 4, 6, .inr (.inr (.inr (.inr f)))) ∧ (∀ i, i < 6 → f i = none ∨ ∃ z, f i = some z ∧ τ z = 50)
abbrev OK8 (cs : Nat → ClassId) (g : GH) (τ : Nat → Nat) (q : Nat) (e : va_E) : Prop := ∃ (hour_ : Int32), ∃ (purse_ : Nat), ∃ (spot_ : Nat), ∃ (seen_ : Nat), ∃ (has_ : Nat), ∃ (at_ : Nat), e = .inr (6, [.int hour_, .ref purse_, .ref spot_, .ref seen_, .ref has_, .ref at_]) ∧ (τ purse_ = 9) ∧ (τ spot_ = 10) ∧ (τ seen_ = 11) ∧ (τ has_ = 12) ∧ (τ at_ = 13)
abbrev OK9 (cs : Nat → ClassId) (g : GH) (τ : Nat → Nat) (q : Nat) (e : va_E) : Prop := ∃ (f : Nat → Int32), e = .inl (cs 0, 4, .inl f)
abbrev OK10 (cs : Nat → ClassId) (g : GH) (τ : Nat → Nat) (q : Nat) (e : va_E) : Prop := ∃ (f : Nat → Int32), e = .inl (cs 0, 4, .inl f)
abbrev OK11 (cs : Nat → ClassId) (g : GH) (τ : Nat → Nat) (q : Nat) (e : va_E) : Prop := ∃ (f : Nat → Int32), e = .inl (cs 0, 4, .inl f)
abbrev OK12 (cs : Nat → ClassId) (g : GH) (τ : Nat → Nat) (q : Nat) (e : va_E) : Prop := ∃ (f : Nat → Int32), e = .inl (cs 0, 4, .inl f)
abbrev OK13 (cs : Nat → ClassId) (g : GH) (τ : Nat → Nat) (q : Nat) (e : va_E) : Prop := ∃ (f : Nat → Int32), e = .inl (cs 0, 8, .inl f)
abbrev OK14 (cs : Nat → ClassId) (g : GH) (τ : Nat → Nat) (q : Nat) (e : va_E) : Prop := ∃ (hour_ : Int32), ∃ (purse_ : Nat), ∃ (spot_ : Nat), ∃ (seen_ : Nat), ∃ (has_ : Nat), ∃ (at_ : Nat), e = .inr (6, [.int hour_, .ref purse_, .ref spot_, .ref seen_, .ref has_, .ref at_]) ∧ (τ purse_ = 15) ∧ (τ spot_ = 16) ∧ (τ seen_ = 17) ∧ (τ has_ = 18) ∧ (τ at_ = 19)
abbrev OK15 (cs : Nat → ClassId) (g : GH) (τ : Nat → Nat) (q : Nat) (e : va_E) : Prop := ∃ (f : Nat → Int32), e = .inl (cs 0, 4, .inl f)
abbrev OK16 (cs : Nat → ClassId) (g : GH) (τ : Nat → Nat) (q : Nat) (e : va_E) : Prop := ∃ (f : Nat → Int32), e = .inl (cs 0, 4, .inl f)
abbrev OK17 (cs : Nat → ClassId) (g : GH) (τ : Nat → Nat) (q : Nat) (e : va_E) : Prop := ∃ (f : Nat → Int32), e = .inl (cs 0, 4, .inl f)
abbrev OK18 (cs : Nat → ClassId) (g : GH) (τ : Nat → Nat) (q : Nat) (e : va_E) : Prop := ∃ (f : Nat → Int32), e = .inl (cs 0, 4, .inl f)
abbrev OK19 (cs : Nat → ClassId) (g : GH) (τ : Nat → Nat) (q : Nat) (e : va_E) : Prop := ∃ (f : Nat → Int32), e = .inl (cs 0, 8, .inl f)
abbrev OK20 (cs : Nat → ClassId) (g : GH) (τ : Nat → Nat) (q : Nat) (e : va_E) : Prop := ∃ (f : Nat → Option Nat), e = .inl (cs 5, 20, .inr (.inr (.inr (.inr f)))) ∧ (∀ i, i < 20 → ∃ z, f i = some z ∧ τ z = 60)
abbrev OK21 (cs : Nat → ClassId) (g : GH) (τ : Nat → Nat) (q : Nat) (e : va_E) : Prop := ∃ (size_ : Int32), ∃ (fewest_ : Int32), ∃ (honest_ : Int32), ∃ (pair_ : Nat), ∃ (one_ : Nat), ∃ (other_ : Nat), ∃ (fitted_ : Nat), e = .inr (9, [.int size_, .int fewest_, .int honest_, .ref pair_, .ref one_, .ref other_, .ref fitted_]) ∧ (IV 0 12 size_) ∧ (τ pair_ = 22) ∧ (τ one_ = 23) ∧ (τ other_ = 24) ∧ (τ fitted_ = 25)
abbrev OK22 (cs : Nat → ClassId) (g : GH) (τ : Nat → Nat) (q : Nat) (e : va_E) : Prop := ∃ (f : Nat → Int32), e = .inl (cs 0, 12, .inl f)
abbrev OK23 (cs : Nat → ClassId) (g : GH) (τ : Nat → Nat) (q : Nat) (e : va_E) : Prop := ∃ (f : Nat → Int32), e = .inl (cs 0, 12, .inl f) ∧ (CI 12 0 11 f)
abbrev OK24 (cs : Nat → ClassId) (g : GH) (τ : Nat → Nat) (q : Nat) (e : va_E) : Prop := ∃ (f : Nat → Int32), e = .inl (cs 0, 12, .inl f) ∧ (CI 12 0 11 f)
abbrev OK25 (cs : Nat → ClassId) (g : GH) (τ : Nat → Nat) (q : Nat) (e : va_E) : Prop := ∃ (f : Nat → Int32), e = .inl (cs 2, 12, .inl f)
abbrev OK26 (cs : Nat → ClassId) (g : GH) (τ : Nat → Nat) (q : Nat) (e : va_E) : Prop := ∃ (f : Nat → Option Nat), e = .inl (cs 6, 4, .inr (.inr (.inr (.inr f)))) ∧ (∀ i, i < 4 → (f i = none ∧ g.2.2.2 i = none) ∨ ∃ z v, f i = some z ∧ τ z = 70 + i ∧ g.2.2.2 i = some v)
abbrev OK27 (cs : Nat → ClassId) (g : GH) (τ : Nat → Nat) (q : Nat) (e : va_E) : Prop := ∃ (told_ : Value), ∃ (known_ : Nat), e = .inr (3, [told_, .ref known_]) ∧ (((g.2.2.1 ∧ told_ = .null) ∨ (¬ g.2.2.1 ∧ told_ = .ref g.1))) ∧ (τ known_ = 28)
abbrev OK28 (cs : Nat → ClassId) (g : GH) (τ : Nat → Nat) (q : Nat) (e : va_E) : Prop := ∃ (f : Nat → Int32), e = .inl (cs 0, 4096, .inl f)
abbrev OK29 (cs : Nat → ClassId) (g : GH) (τ : Nat → Nat) (q : Nat) (e : va_E) : Prop := ∃ (here_ : Nat), ∃ (next_ : Nat), ∃ (ways_ : Nat), ∃ (stallOf_ : Nat), ∃ (told_ : Value), ∃ (pairs_ : Value), ∃ (has_ : Int32), ∃ (purse_ : Int32), ∃ (bestWays_ : Int32), ∃ (most_ : Int32), ∃ (bought_ : Int32), e = .inr (10, [.ref here_, .ref next_, .ref ways_, .ref stallOf_, told_, pairs_, .int has_, .int purse_, .int bestWays_, .int most_, .int bought_]) ∧ (τ ways_ = 32) ∧ (τ stallOf_ = 33) ∧ (((τ here_ = 30 ∧ τ next_ = 31) ∨ (τ here_ = 31 ∧ τ next_ = 30)))
abbrev OK30 (cs : Nat → ClassId) (g : GH) (τ : Nat → Nat) (q : Nat) (e : va_E) : Prop := ∃ (f : Nat → Int32), e = .inl (cs 0, 2048, .inl f)
abbrev OK31 (cs : Nat → ClassId) (g : GH) (τ : Nat → Nat) (q : Nat) (e : va_E) : Prop := ∃ (f : Nat → Int32), e = .inl (cs 0, 2048, .inl f)
abbrev OK32 (cs : Nat → ClassId) (g : GH) (τ : Nat → Nat) (q : Nat) (e : va_E) : Prop := ∃ (f : Nat → Int32), e = .inl (cs 0, 256, .inl f)
abbrev OK33 (cs : Nat → ClassId) (g : GH) (τ : Nat → Nat) (q : Nat) (e : va_E) : Prop := ∃ (f : Nat → Int32), e = .inl (cs 0, 12, .inl f) ∧ (CI 12 (-1) 7 f)
abbrev OK34 (cs : Nat → ClassId) (g : GH) (τ : Nat → Nat) (q : Nat) (e : va_E) : Prop := ∃ (stack_ : Nat), ∃ (told_ : Value), ∃ (scene_ : Value), ∃ (rule_ : Value), ∃ (words_ : Nat), ∃ (buyer_ : Int32), ∃ (saw_ : Int32), ∃ (stalls_ : Int32), ∃ (bought_ : Int32), ∃ (x_ : Int32), e = .inr (2, [.ref stack_, told_, scene_, rule_, .ref words_, .int buyer_, .int saw_, .int stalls_, .int bought_, .int x_]) ∧ (τ stack_ = 35) ∧ (τ words_ = 36) ∧ (IV 0 3 buyer_)
abbrev OK35 (cs : Nat → ClassId) (g : GH) (τ : Nat → Nat) (q : Nat) (e : va_E) : Prop := ∃ (f : Nat → Int64), e = .inl (cs 3, 60, .inr (.inl f))
abbrev OK36 (cs : Nat → ClassId) (g : GH) (τ : Nat → Nat) (q : Nat) (e : va_E) : Prop := ∃ (f : Nat → Int32), e = .inl (cs 0, 13, .inl f)
abbrev OK40 (cs : Nat → ClassId) (g : GH) (τ : Nat → Nat) (q : Nat) (e : va_E) : Prop := ∃ (stalls_ : Int32), ∃ (shift_ : Int32), ∃ (halves_ : Int32), ∃ (buyers_ : Int32), ∃ (near_ : Int32), ∃ (dusk_ : Int32), ∃ (duskPrice_ : Int32), ∃ (hear_ : Int32), ∃ (forged_ : Int32), ∃ (stall_ : Nat), ∃ (shape_ : Nat), ∃ (side_ : Nat), ∃ (price_ : Nat), ∃ (purse_ : Nat), ∃ (spot_ : Nat), ∃ (club_ : Nat), ∃ (fitting_ : Nat), ∃ (nearly_ : Nat), e = .inr (8, [.int stalls_, .int shift_, .int halves_, .int buyers_, .int near_, .int dusk_, .int duskPrice_, .int hear_, .int forged_, .ref stall_, .ref shape_, .ref side_, .ref price_, .ref purse_, .ref spot_, .ref club_, .ref fitting_, .ref nearly_]) ∧ (IV 0 8 stalls_) ∧ (IV 0 12 halves_) ∧ (IV 0 4 buyers_) ∧ (τ stall_ = 41) ∧ (τ shape_ = 42) ∧ (τ side_ = 43) ∧ (τ price_ = 44) ∧ (τ purse_ = 45) ∧ (τ spot_ = 46) ∧ (τ club_ = 47) ∧ (τ fitting_ = 48) ∧ (τ nearly_ = 49) ∧ ((q = g.1 → g.2.2.1 → IV 0 0 stalls_ ∧ IV 0 0 halves_ ∧ IV 0 0 buyers_))
abbrev OK41 (cs : Nat → ClassId) (g : GH) (τ : Nat → Nat) (q : Nat) (e : va_E) : Prop := ∃ (f : Nat → Int32), e = .inl (cs 0, 12, .inl f)
abbrev OK42 (cs : Nat → ClassId) (g : GH) (τ : Nat → Nat) (q : Nat) (e : va_E) : Prop := ∃ (f : Nat → Int32), e = .inl (cs 0, 12, .inl f)
abbrev OK43 (cs : Nat → ClassId) (g : GH) (τ : Nat → Nat) (q : Nat) (e : va_E) : Prop := ∃ (f : Nat → Int32), e = .inl (cs 0, 12, .inl f)
abbrev OK44 (cs : Nat → ClassId) (g : GH) (τ : Nat → Nat) (q : Nat) (e : va_E) : Prop := ∃ (f : Nat → Int32), e = .inl (cs 0, 12, .inl f)
abbrev OK45 (cs : Nat → ClassId) (g : GH) (τ : Nat → Nat) (q : Nat) (e : va_E) : Prop := ∃ (f : Nat → Int32), e = .inl (cs 0, 4, .inl f)
abbrev OK46 (cs : Nat → ClassId) (g : GH) (τ : Nat → Nat) (q : Nat) (e : va_E) : Prop := ∃ (f : Nat → Int32), e = .inl (cs 0, 4, .inl f)
abbrev OK47 (cs : Nat → ClassId) (g : GH) (τ : Nat → Nat) (q : Nat) (e : va_E) : Prop := ∃ (f : Nat → Int32), e = .inl (cs 0, 4, .inl f)
abbrev OK48 (cs : Nat → ClassId) (g : GH) (τ : Nat → Nat) (q : Nat) (e : va_E) : Prop := ∃ (f : Nat → Int32), e = .inl (cs 0, 12, .inl f)
abbrev OK49 (cs : Nat → ClassId) (g : GH) (τ : Nat → Nat) (q : Nat) (e : va_E) : Prop := ∃ (f : Nat → Int32), e = .inl (cs 0, 12, .inl f)
abbrev OK50 (cs : Nat → ClassId) (g : GH) (τ : Nat → Nat) (q : Nat) (e : va_E) : Prop := ∃ (clauses_ : Int32), ∃ (kind_ : Nat), ∃ (start_ : Nat), ∃ (middle_ : Nat), ∃ (end_ : Nat), ∃ (code_ : Nat), e = .inr (4, [.int clauses_, .ref kind_, .ref start_, .ref middle_, .ref end_, .ref code_]) ∧ (IV 0 12 clauses_) ∧ (τ kind_ = 51) ∧ (τ start_ = 52) ∧ (τ middle_ = 53) ∧ (τ end_ = 54) ∧ (τ code_ = 55)
abbrev OK51 (cs : Nat → ClassId) (g : GH) (τ : Nat → Nat) (q : Nat) (e : va_E) : Prop := ∃ (f : Nat → Int32), e = .inl (cs 0, 12, .inl f)
abbrev OK52 (cs : Nat → ClassId) (g : GH) (τ : Nat → Nat) (q : Nat) (e : va_E) : Prop := ∃ (f : Nat → Int32), e = .inl (cs 0, 12, .inl f) ∧ (CI 12 0 400 f)
abbrev OK53 (cs : Nat → ClassId) (g : GH) (τ : Nat → Nat) (q : Nat) (e : va_E) : Prop := ∃ (f : Nat → Int32), e = .inl (cs 0, 12, .inl f) ∧ (CI 12 0 400 f)
abbrev OK54 (cs : Nat → ClassId) (g : GH) (τ : Nat → Nat) (q : Nat) (e : va_E) : Prop := ∃ (f : Nat → Int32), e = .inl (cs 0, 12, .inl f) ∧ (CI 12 0 400 f)
abbrev OK55 (cs : Nat → ClassId) (g : GH) (τ : Nat → Nat) (q : Nat) (e : va_E) : Prop := ∃ (n : Nat), ∃ (f : Nat → Int32), e = .inl (cs 0, n, .inl f) ∧ (n ≤ 400)
abbrev OK60 (cs : Nat → ClassId) (g : GH) (τ : Nat → Nat) (q : Nat) (e : va_E) : Prop := ∃ (hour_ : Int32), ∃ (purse_ : Nat), ∃ (spot_ : Nat), ∃ (seen_ : Nat), ∃ (has_ : Nat), ∃ (at_ : Nat), e = .inr (6, [.int hour_, .ref purse_, .ref spot_, .ref seen_, .ref has_, .ref at_]) ∧ (τ purse_ = 61) ∧ (τ spot_ = 62) ∧ (τ seen_ = 63) ∧ (τ has_ = 64) ∧ (τ at_ = 65)
abbrev OK61 (cs : Nat → ClassId) (g : GH) (τ : Nat → Nat) (q : Nat) (e : va_E) : Prop := ∃ (f : Nat → Int32), e = .inl (cs 0, 4, .inl f)
abbrev OK62 (cs : Nat → ClassId) (g : GH) (τ : Nat → Nat) (q : Nat) (e : va_E) : Prop := ∃ (f : Nat → Int32), e = .inl (cs 0, 4, .inl f)
abbrev OK63 (cs : Nat → ClassId) (g : GH) (τ : Nat → Nat) (q : Nat) (e : va_E) : Prop := ∃ (f : Nat → Int32), e = .inl (cs 0, 4, .inl f)
abbrev OK64 (cs : Nat → ClassId) (g : GH) (τ : Nat → Nat) (q : Nat) (e : va_E) : Prop := ∃ (f : Nat → Int32), e = .inl (cs 0, 4, .inl f)
abbrev OK65 (cs : Nat → ClassId) (g : GH) (τ : Nat → Nat) (q : Nat) (e : va_E) : Prop := ∃ (f : Nat → Int32), e = .inl (cs 0, 8, .inl f)
abbrev OK70 (cs : Nat → ClassId) (g : GH) (τ : Nat → Nat) (q : Nat) (e : va_E) : Prop := ∃ (told_ : Nat), ∃ (scene_ : Nat), ∃ (trials_ : Nat), ∃ (x_ : Int32), e = .inr (1, [.ref told_, .ref scene_, .ref trials_, .int x_]) ∧ (τ told_ = 40) ∧ (τ scene_ = 80) ∧ (τ trials_ = 86) ∧ (g.2.2.2 0 = some x_) ∧ (IV 0 2147483647 x_)
abbrev OK71 (cs : Nat → ClassId) (g : GH) (τ : Nat → Nat) (q : Nat) (e : va_E) : Prop := ∃ (told_ : Nat), ∃ (scene_ : Nat), ∃ (trials_ : Nat), ∃ (x_ : Int32), e = .inr (1, [.ref told_, .ref scene_, .ref trials_, .int x_]) ∧ (τ told_ = 40) ∧ (τ scene_ = 80) ∧ (τ trials_ = 86) ∧ (g.2.2.2 1 = some x_) ∧ (IV 0 2147483647 x_)
abbrev OK72 (cs : Nat → ClassId) (g : GH) (τ : Nat → Nat) (q : Nat) (e : va_E) : Prop := ∃ (told_ : Nat), ∃ (scene_ : Nat), ∃ (trials_ : Nat), ∃ (x_ : Int32), e = .inr (1, [.ref told_, .ref scene_, .ref trials_, .int x_]) ∧ (τ told_ = 40) ∧ (τ scene_ = 80) ∧ (τ trials_ = 86) ∧ (g.2.2.2 2 = some x_) ∧ (IV 0 2147483647 x_)
abbrev OK73 (cs : Nat → ClassId) (g : GH) (τ : Nat → Nat) (q : Nat) (e : va_E) : Prop := ∃ (told_ : Nat), ∃ (scene_ : Nat), ∃ (trials_ : Nat), ∃ (x_ : Int32), e = .inr (1, [.ref told_, .ref scene_, .ref trials_, .int x_]) ∧ (τ told_ = 40) ∧ (τ scene_ = 80) ∧ (τ trials_ = 86) ∧ (g.2.2.2 3 = some x_) ∧ (IV 0 2147483647 x_)
abbrev OK80 (cs : Nat → ClassId) (g : GH) (τ : Nat → Nat) (q : Nat) (e : va_E) : Prop := ∃ (hour_ : Int32), ∃ (purse_ : Nat), ∃ (spot_ : Nat), ∃ (seen_ : Nat), ∃ (has_ : Nat), ∃ (at_ : Nat), e = .inr (6, [.int hour_, .ref purse_, .ref spot_, .ref seen_, .ref has_, .ref at_]) ∧ (τ purse_ = 81) ∧ (τ spot_ = 82) ∧ (τ seen_ = 83) ∧ (τ has_ = 84) ∧ (τ at_ = 85)
abbrev OK81 (cs : Nat → ClassId) (g : GH) (τ : Nat → Nat) (q : Nat) (e : va_E) : Prop := ∃ (f : Nat → Int32), e = .inl (cs 0, 4, .inl f)
abbrev OK82 (cs : Nat → ClassId) (g : GH) (τ : Nat → Nat) (q : Nat) (e : va_E) : Prop := ∃ (f : Nat → Int32), e = .inl (cs 0, 4, .inl f)
abbrev OK83 (cs : Nat → ClassId) (g : GH) (τ : Nat → Nat) (q : Nat) (e : va_E) : Prop := ∃ (f : Nat → Int32), e = .inl (cs 0, 4, .inl f)
abbrev OK84 (cs : Nat → ClassId) (g : GH) (τ : Nat → Nat) (q : Nat) (e : va_E) : Prop := ∃ (f : Nat → Int32), e = .inl (cs 0, 4, .inl f)
abbrev OK85 (cs : Nat → ClassId) (g : GH) (τ : Nat → Nat) (q : Nat) (e : va_E) : Prop := ∃ (f : Nat → Int32), e = .inl (cs 0, 8, .inl f)
abbrev OK86 (cs : Nat → ClassId) (g : GH) (τ : Nat → Nat) (q : Nat) (e : va_E) : Prop := ∃ (size_ : Int32), ∃ (fewest_ : Int32), ∃ (honest_ : Int32), ∃ (pair_ : Nat), ∃ (one_ : Nat), ∃ (other_ : Nat), ∃ (fitted_ : Nat), e = .inr (9, [.int size_, .int fewest_, .int honest_, .ref pair_, .ref one_, .ref other_, .ref fitted_]) ∧ (IV 0 12 size_) ∧ (τ pair_ = 87) ∧ (τ one_ = 88) ∧ (τ other_ = 89) ∧ (τ fitted_ = 90)
abbrev OK87 (cs : Nat → ClassId) (g : GH) (τ : Nat → Nat) (q : Nat) (e : va_E) : Prop := ∃ (f : Nat → Int32), e = .inl (cs 0, 12, .inl f)
abbrev OK88 (cs : Nat → ClassId) (g : GH) (τ : Nat → Nat) (q : Nat) (e : va_E) : Prop := ∃ (f : Nat → Int32), e = .inl (cs 0, 12, .inl f) ∧ (CI 12 0 11 f)
abbrev OK89 (cs : Nat → ClassId) (g : GH) (τ : Nat → Nat) (q : Nat) (e : va_E) : Prop := ∃ (f : Nat → Int32), e = .inl (cs 0, 12, .inl f) ∧ (CI 12 0 11 f)
abbrev OK90 (cs : Nat → ClassId) (g : GH) (τ : Nat → Nat) (q : Nat) (e : va_E) : Prop := ∃ (f : Nat → Int32), e = .inl (cs 2, 12, .inl f)
def OKc (cs : Nat → ClassId) (g : GH) (τ : Nat → Nat) (q t : Nat) (e : va_E) : Prop := match t with
  | 1 => OK1 cs g τ q e
  | 2 => OK2 cs g τ q e
  | 3 => OK3 cs g τ q e
  | 4 => OK4 cs g τ q e
  | 5 => OK5 cs g τ q e
  | 6 => OK6 cs g τ q e
  | 7 => OK7 cs g τ q e
  | 8 => OK8 cs g τ q e
  | 9 => OK9 cs g τ q e
  | 10 => OK10 cs g τ q e
  | 11 => OK11 cs g τ q e
  | 12 => OK12 cs g τ q e
  | 13 => OK13 cs g τ q e
  | 14 => OK14 cs g τ q e
  | 15 => OK15 cs g τ q e
  | 16 => OK16 cs g τ q e
  | 17 => OK17 cs g τ q e
  | 18 => OK18 cs g τ q e
  | 19 => OK19 cs g τ q e
  | 20 => OK20 cs g τ q e
  | 21 => OK21 cs g τ q e
  | 22 => OK22 cs g τ q e
  | 23 => OK23 cs g τ q e
  | 24 => OK24 cs g τ q e
  | 25 => OK25 cs g τ q e
  | 26 => OK26 cs g τ q e
  | 27 => OK27 cs g τ q e
  | 28 => OK28 cs g τ q e
  | 29 => OK29 cs g τ q e
  | 30 => OK30 cs g τ q e
  | 31 => OK31 cs g τ q e
  | 32 => OK32 cs g τ q e
  | 33 => OK33 cs g τ q e
  | 34 => OK34 cs g τ q e
  | 35 => OK35 cs g τ q e
  | 36 => OK36 cs g τ q e
  | 40 => OK40 cs g τ q e
  | 41 => OK41 cs g τ q e
  | 42 => OK42 cs g τ q e
  | 43 => OK43 cs g τ q e
  | 44 => OK44 cs g τ q e
  | 45 => OK45 cs g τ q e
  | 46 => OK46 cs g τ q e
  | 47 => OK47 cs g τ q e
  | 48 => OK48 cs g τ q e
  | 49 => OK49 cs g τ q e
  | 50 => OK50 cs g τ q e
  | 51 => OK51 cs g τ q e
  | 52 => OK52 cs g τ q e
  | 53 => OK53 cs g τ q e
  | 54 => OK54 cs g τ q e
  | 55 => OK55 cs g τ q e
  | 60 => OK60 cs g τ q e
  | 61 => OK61 cs g τ q e
  | 62 => OK62 cs g τ q e
  | 63 => OK63 cs g τ q e
  | 64 => OK64 cs g τ q e
  | 65 => OK65 cs g τ q e
  | 70 => OK70 cs g τ q e
  | 71 => OK71 cs g τ q e
  | 72 => OK72 cs g τ q e
  | 73 => OK73 cs g τ q e
  | 80 => OK80 cs g τ q e
  | 81 => OK81 cs g τ q e
  | 82 => OK82 cs g τ q e
  | 83 => OK83 cs g τ q e
  | 84 => OK84 cs g τ q e
  | 85 => OK85 cs g τ q e
  | 86 => OK86 cs g τ q e
  | 87 => OK87 cs g τ q e
  | 88 => OK88 cs g τ q e
  | 89 => OK89 cs g τ q e
  | 90 => OK90 cs g τ q e
  | _ => False
def HT (D : va_G) (cs : Nat → ClassId) (g : GH) (τ : Nat → Nat) (H : Heap) : Prop := ∀ q, τ q ≠ 0 → ∃ e, va_at D classes (q, e) H ∧ OKc cs g τ q (τ q) e
theorem HT.get {D : va_G} {cs : Nat → ClassId} {g : GH} {τ : Nat → Nat} {H : Heap} (h : HT D cs g τ H) {q t : Nat} (e : τ q = t) (h0 : t ≠ 0) : ∃ x, va_at D classes (q, x) H ∧ OKc cs g τ q t x := by
  subst e; exact h q h0
theorem HT.lt {D : va_G} {cs : Nat → ClassId} {g : GH} {τ : Nat → Nat} {H : Heap} (h : HT D cs g τ H) {q : Nat} (e : τ q ≠ 0) : q < H.size := by
  obtain ⟨x, h1, -⟩ := h q e
  exact h1.lt
theorem vp_nil {D : va_G} {H : Heap} : va_P D classes [] H := fun k q h => by simp at h
theorem vp_cons {D : va_G} {H : Heap} {x : Nat × va_E} {ws : va_W} (h : va_at D classes x H) (h2 : va_P D classes ws H) : va_P D classes (x :: ws) H := fun k q hk => by
  cases k with
  | zero => cases hk; exact h
  | succ k => exact h2 k q hk
theorem nd_inj : ∀ {l : List Nat} {i j t : Nat}, l.Nodup → l[i]? = some t → l[j]? = some t → i = j
  | [], i, j, t, nd, h1, h2 => by simp at h1
  | x :: xs, 0, 0, t, nd, h1, h2 => rfl
  | x :: xs, 0, j + 1, t, nd, h1, h2 => by
    cases h1
    have h2' : xs[j]? = some x := h2
    exact absurd (List.mem_of_getElem? h2') (List.nodup_cons.mp nd).1
  | x :: xs, i + 1, 0, t, nd, h1, h2 => by
    cases h2
    have h1' : xs[i]? = some x := h1
    exact absurd (List.mem_of_getElem? h1') (List.nodup_cons.mp nd).1
  | x :: xs, i + 1, j + 1, t, nd, h1, h2 => by
    have h1' : xs[i]? = some t := h1
    have h2' : xs[j]? = some t := h2
    rw [nd_inj (List.nodup_cons.mp nd).2 h1' h2']
theorem vd_of {A : Nat → Prop} {τ : Nat → Nat} {ws : va_W} {ts : List Nat} (e : ws.map (fun q => τ q.1) = ts) (nd : ts.Nodup) (nz : 0 ∉ ts) (hA : ∀ q, τ q ≠ 0 → A q) : va_D A ws := by
  have hi : ∀ (i : Nat) (p : Nat × va_E), ws[i]? = some p → ts[i]? = some (τ p.1) := fun i p h => by rw [← e, List.getElem?_map, h]; rfl
  refine ⟨fun i j p q h1 h2 h3 => ?_, fun k q hk => ?_⟩
  · have a1 := hi i p h1
    have a2 := hi j q h2
    rw [h3] at a1
    exact nd_inj nd a1 a2
  · exact hA _ (fun z => nz (by rw [← z]; exact List.mem_of_getElem? (hi k q hk)))
def AllC (P : Nat × va_E → Prop) : va_W → Prop
  | [] => True
  | x :: xs => P x ∧ AllC P xs
theorem AllC.at {P : Nat × va_E → Prop} : ∀ {ws : va_W}, AllC P ws → ∀ (k : Nat) (x : Nat × va_E), ws[k]? = some x → P x
  | [], _, k, x, h => by simp at h
  | y :: ys, h, 0, x, hk => by cases hk; exact h.1
  | y :: ys, h, k + 1, x, hk => AllC.at h.2 k x hk
/-- behind a call that made nothing new -/
theorem HT.same {D : va_G} {cs : Nat → ClassId} {g g' : GH} {τ : Nat → Nat} {H H1 : Heap} {wc w1 : va_W} (h : HT D cs g τ H) (hk : ∀ q : Nat, q < H.size → ¬ va_A wc H.size q → H1[q]? = H[q]?) (hP1 : va_P D classes w1 H1) (h1 : AllC (fun x => OKc cs g' τ x.1 (τ x.1) x.2) w1) (hm : ∀ q, q ∈ wc.map Prod.fst → q ∈ w1.map Prod.fst)
    (h3 : ∀ q e, q ∉ w1.map Prod.fst → OKc cs g τ q (τ q) e → OKc cs g' τ q (τ q) e) : HT D cs g' τ H1 := fun q hq => by
  by_cases z : q ∈ w1.map Prod.fst
  · obtain ⟨⟨q', e⟩, m1, m2⟩ := List.mem_map.mp z
    obtain ⟨k, hk2⟩ := List.getElem?_of_mem m1
    have m2' : q' = q := m2
    subst m2'
    exact ⟨e, hP1 k _ hk2, h1.at k _ hk2⟩
  · obtain ⟨e, a1, a2⟩ := h q hq
    refine ⟨e, a1.kept (hk q (HT.lt h hq) (fun y => ?_)), h3 q e z a2⟩
    rcases y with ⟨k, e', y⟩ | y
    · exact z (hm q (List.mem_map.mpr ⟨_, List.mem_of_getElem? y, rfl⟩))
    · exact absurd (HT.lt h hq) (Nat.not_lt.mpr y)
theorem HT.keep {D : va_G} {cs : Nat → ClassId} {g : GH} {τ : Nat → Nat} {H H1 : Heap} (h : HT D cs g τ H) (hk : ∀ q : Nat, q < H.size → ¬ (fun _ : Nat => False) q → H1[q]? = H[q]?) : HT D cs g τ H1 := fun q hq => by
  obtain ⟨e, a1, a2⟩ := h q hq
  exact ⟨e, a1.kept (hk q (HT.lt h hq) (fun z => z)), a2⟩
/-- what lies elsewhere stays, whatever is called -/
theorem HT.off {D : va_G} {cs : Nat → ClassId} {g : GH} {τ : Nat → Nat} {H H1 : Heap} (h : HT D cs g τ H) (hk : ∀ q : Nat, τ q ≠ 0 → q < H.size → H1[q]? = H[q]?) : HT D cs g τ H1 := fun q hq => by
  obtain ⟨e, a1, a2⟩ := h q hq
  exact ⟨e, a1.kept (hk q hq (HT.lt h hq)), a2⟩
theorem vt_nz {τ : Nat → Nat} {ws : va_W} {ts : List Nat} (e : ws.map (fun q => τ q.1) = ts) (nz : 0 ∉ ts) {k q : Nat} {x : va_E} (h : ws[k]? = some (q, x)) : τ q ≠ 0 := fun z => nz (by
  have h1 : ts[k]? = some (τ q) := by rw [← e, List.getElem?_map, h]; rfl
  rw [← z]; exact List.mem_of_getElem? h1)
theorem vt_off {τ : Nat → Nat} {ws : va_W} {ts : List Nat} {H H1 : Heap} (e : ws.map (fun q => τ q.1) = ts) (nz : 0 ∉ ts) (hk : ∀ q : Nat, q < H.size → ¬ va_A ws H.size q → H1[q]? = H[q]?) : ∀ q, q < H.size → τ q = 0 → H1[q]? = H[q]? := fun q h1 h2 => hk q h1 (fun z => by
  rcases z with ⟨k, x, z⟩ | z
  · exact vt_nz e nz z h2
  · exact absurd h1 (Nat.not_lt.mpr z))
theorem ix20 {f c : Int32} (h1 : IV 0 19 f) (h2 : IV 0 20 c) : Int32.toNatClampNeg (f + c - (f + c) / 20 * 20) < 20 := by
  have e : (f + c).toInt = f.toInt + c.toInt := by unfold IV at *; rw [Int32.toInt_add]; exact iv_bm (by omega) (by omega)
  have h3 : IV 0 39 (f + c) := by unfold IV at *; omega
  have h4 : IV 0 19 (f + c - (f + c) / 20 * 20) := iv_remP rfl h3 (iv_c (a := 20) (b := 20) (by decide)) (by decide) (by decide)
  have h5 := h4.2
  show (f + c - (f + c) / 20 * 20).toInt.toNat < 20
  omega
theorem ix20u {f c : Int32} (h1 : IV 0 19 f) (h2 : IV 1 20 c) : Int32.toNatClampNeg (f + (c - 1) - (f + (c - 1)) / 20 * 20) < 20 := by
  refine ix20 h1 ?_
  have := h2.1
  have := h2.2
  unfold IV
  rw [Int32.toInt_sub, show (1 : Int32).toInt = 1 by decide, iv_bm (by omega) (by omega)]
  omega
/-- of what is there once there is one -/
def uq (t : Nat) : Bool := t < 40 || (70 ≤ t && t < 74)
def XU (τ : Nat → Nat) : Prop := ∀ q q' : Nat, τ q = τ q' → τ q ≠ 0 → uq (τ q) = true → q = q'
/-- where the law stands -/
def LC (p : Program) (s : State) (m : MethodId) (c : Code) (b : Nat) (D : va_G) (cs : Nat → ClassId) (kK kV : Nat → Nat) (A : Nat → Prop) : Prop := p.tables.exec = Jvm.exec ∧ c.code = cL_law ∧ c.maxLocals = 4 ∧ s.vm.findClass RL = some m.cls ∧ (∀ w ∈ TB, w.before #[Value.ref b] s = true) ∧ hz_EV D cs kK kV A s s.heap ∧ ∀ q : Nat, s.heap.size ≤ q → A q
/-- tags behind a call that made new cells, or moved some -/
def TN (NL : List (Nat × Nat)) (wc : List Nat) (τ : Nat → Nat) : Nat → Nat := fun q => match NL.find? (fun x => x.1 == q) with | some x => x.2 | none => if q ∈ wc then 0 else τ q
theorem TN_old {NL : List (Nat × Nat)} {wc : List Nat} {τ : Nat → Nat} {q : Nat} (h1 : q ∉ NL.map Prod.fst) (h2 : q ∉ wc) : TN NL wc τ q = τ q := by
  have e : NL.find? (fun x => x.1 == q) = none := by
    rw [List.find?_eq_none]
    intro x hx
    simp only [beq_iff_eq]
    exact fun z => h1 (List.mem_map.mpr ⟨x, hx, z⟩)
  unfold TN
  rw [e]
  exact if_neg h2
theorem TN_new {wc : List Nat} {τ : Nat → Nat} {q t : Nat} : ∀ {NL : List (Nat × Nat)} {i : Nat}, (NL.map Prod.fst).Nodup → NL[i]? = some (q, t) → TN NL wc τ q = t
  | [], i, nd, h => by simp at h
  | y :: ys, 0, nd, h => by
    cases h
    unfold TN
    rw [List.find?_cons_of_pos (by simp)]
  | y :: ys, i + 1, nd, h => by
    have nd' := List.nodup_cons.mp nd
    have hm : q ∈ ys.map Prod.fst := List.mem_map.mpr ⟨(q, t), List.mem_of_getElem? h, rfl⟩
    have ne : ¬ (y.1 == q) = true := fun z => nd'.1 (by rw [beq_iff_eq.mp z]; exact hm)
    have r := TN_new (wc := wc) (τ := τ) nd'.2 h
    unfold TN at r ⊢
    rw [List.find?_cons_of_neg (p := fun x : Nat × Nat => x.1 == q) ne]
    exact r
theorem TN_z {NL : List (Nat × Nat)} {wc : List Nat} {τ : Nat → Nat} {q : Nat} (h1 : q ∉ NL.map Prod.fst) (h : TN NL wc τ q ≠ 0) : q ∉ wc ∧ TN NL wc τ q = τ q := by
  have e : NL.find? (fun x => x.1 == q) = none := by
    rw [List.find?_eq_none]
    intro x hx
    simp only [beq_iff_eq]
    exact fun z => h1 (List.mem_map.mpr ⟨x, hx, z⟩)
  unfold TN at h ⊢
  rw [e] at h ⊢
  by_cases z : q ∈ wc
  · rw [if_pos z] at h; exact absurd rfl h
  · exact ⟨z, if_neg z⟩
theorem vd_nd {A : Nat → Prop} : ∀ {ws : va_W}, va_D A ws → (ws.map Prod.fst).Nodup
  | [], _ => List.nodup_nil
  | x :: xs, h => by
    refine List.nodup_cons.mpr ⟨fun z => ?_, vd_nd ⟨fun i j p q h1 h2 h3 => Nat.succ.inj (h.1 (i + 1) (j + 1) p q h1 h2 h3), fun k q hk => h.2 (k + 1) q hk⟩⟩
    obtain ⟨y, hy, e⟩ := List.mem_map.mp z
    obtain ⟨k, hk⟩ := List.getElem?_of_mem hy
    have := h.1 0 (k + 1) x y rfl hk e.symm
    omega
/-- behind any call: NL tells the tags of all cells of w1 -/
theorem HT.re {D : va_G} {cs : Nat → ClassId} {g g' : GH} {τ : Nat → Nat} {H H1 : Heap} {wc w1 : va_W} {NL : List (Nat × Nat)} (h : HT D cs g τ H) (hk : ∀ q : Nat, q < H.size → ¬ va_A wc H.size q → H1[q]? = H[q]?) (hP1 : va_P D classes w1 H1) (hN : NL.map Prod.fst = w1.map Prod.fst)
    (h1 : AllC (fun x => OKc cs g' (TN NL (wc.map Prod.fst) τ) x.1 (TN NL (wc.map Prod.fst) τ x.1) x.2) w1)
    (h3 : ∀ q e, q ∉ w1.map Prod.fst → τ q ≠ 0 → q ∉ wc.map Prod.fst → OKc cs g τ q (τ q) e → OKc cs g' (TN NL (wc.map Prod.fst) τ) q (τ q) e) : HT D cs g' (TN NL (wc.map Prod.fst) τ) H1 := fun q hq => by
  by_cases z : q ∈ w1.map Prod.fst
  · obtain ⟨⟨q', e⟩, m1, m2⟩ := List.mem_map.mp z
    obtain ⟨k, hk2⟩ := List.getElem?_of_mem m1
    have m2' : q' = q := m2
    subst m2'
    exact ⟨e, hP1 k _ hk2, h1.at k _ hk2⟩
  · obtain ⟨nw, et⟩ := TN_z (by rw [hN]; exact z) hq
    rw [et] at hq
    obtain ⟨e, a1, a2⟩ := h q hq
    rw [et]
    refine ⟨e, a1.kept (hk q (HT.lt h hq) (fun y => ?_)), h3 q e z hq nw a2⟩
    rcases y with ⟨k, e', y⟩ | y
    · exact nw (List.mem_map.mpr ⟨_, List.mem_of_getElem? y, rfl⟩)
    · exact absurd (HT.lt h hq) (Nat.not_lt.mpr y)
/-- an address that had a tag, and is none of the cells of the call -/
theorem TN_keep {D : va_G} {cs : Nat → ClassId} {g : GH} {τ : Nat → Nat} {H : Heap} {wc w1 : va_W} {NL : List (Nat × Nat)} {q : Nat} (h : HT D cs g τ H) (hD1 : va_D (va_A wc H.size) w1) (hN : NL.map Prod.fst = w1.map Prod.fst) (hq : τ q ≠ 0) (nw : q ∉ wc.map Prod.fst) : TN NL (wc.map Prod.fst) τ q = τ q := by
  refine TN_old ?_ nw
  rw [hN]
  intro z
  obtain ⟨⟨q', e⟩, m1, m2⟩ := List.mem_map.mp z
  obtain ⟨k, hk2⟩ := List.getElem?_of_mem m1
  have m2' : q' = q := m2
  subst m2'
  rcases hD1.2 k _ hk2 with ⟨k2, e2, y⟩ | y
  · exact nw (List.mem_map.mpr ⟨_, List.mem_of_getElem? y, rfl⟩)
  · exact absurd (HT.lt h hq) (Nat.not_lt.mpr y)
/-- not among the cells: another tag -/
theorem nw_of {τ : Nat → Nat} {ws : va_W} {ts : List Nat} (e : ws.map (fun q => τ q.1) = ts) {q t : Nat} (hq : τ q = t) (ht : t ∉ ts) : q ∉ ws.map Prod.fst := fun z => by
  obtain ⟨x, hx, ex⟩ := List.mem_map.mp z
  refine ht ?_
  rw [← e, ← hq]
  exact List.mem_map.mpr ⟨x, hx, by rw [ex]⟩
theorem filt_inj {p : Nat → Bool} : ∀ {l : List Nat} {i j t : Nat}, (l.filter p).Nodup → l[i]? = some t → l[j]? = some t → p t = true → i = j
  | [], i, j, t, nd, h1, h2, hp => by simp at h1
  | x :: xs, 0, 0, t, nd, h1, h2, hp => rfl
  | x :: xs, 0, j + 1, t, nd, h1, h2, hp => by
    cases h1
    rw [List.filter_cons_of_pos hp] at nd
    have h2' : xs[j]? = some x := h2
    exact absurd (List.mem_filter.mpr ⟨List.mem_of_getElem? h2', hp⟩) (List.nodup_cons.mp nd).1
  | x :: xs, i + 1, 0, t, nd, h1, h2, hp => by
    cases h2
    rw [List.filter_cons_of_pos hp] at nd
    have h1' : xs[i]? = some x := h1
    exact absurd (List.mem_filter.mpr ⟨List.mem_of_getElem? h1', hp⟩) (List.nodup_cons.mp nd).1
  | x :: xs, i + 1, j + 1, t, nd, h1, h2, hp => by
    have nd' : (xs.filter p).Nodup := by
      by_cases z : p x = true
      · rw [List.filter_cons_of_pos z] at nd; exact (List.nodup_cons.mp nd).2
      · rw [List.filter_cons_of_neg z] at nd; exact nd
    rw [filt_inj nd' h1 h2 hp]
theorem NL_at {NL : List (Nat × Nat)} {q : Nat} (h : q ∈ NL.map Prod.fst) : ∃ (i : Nat) (t : Nat), NL[i]? = some (q, t) := by
  obtain ⟨⟨q', t⟩, m1, m2⟩ := List.mem_map.mp h
  obtain ⟨k, hk⟩ := List.getElem?_of_mem m1
  have m2' : q' = q := m2
  subst m2'
  exact ⟨k, t, hk⟩
theorem RE_pack {D : va_G} {cs : Nat → ClassId} {g : GH} {τ : Nat → Nat} {H : Heap} {A E : Nat → Prop} {wc w1 : va_W} {NL : List (Nat × Nat)} {ts ts1 : List Nat} {nt : Nat} (hnt : nt = 0 ∨ ∀ q, τ q ≠ nt) (h : HT D cs g τ H) (hU : XU τ) (hAt : ∀ q, τ q ≠ 0 → A q) (hFc : ∀ q, va_A wc H.size q → A q) (eT : wc.map (fun q => τ q.1) = ts) (nz : 0 ∉ ts) (hD1 : va_D (va_A wc H.size) w1) (hN : NL.map Prod.fst = w1.map Prod.fst) (e1 : NL.map Prod.snd = ts1) (nf : (ts1.filter uq).Nodup) (sub : ∀ t ∈ ts1, uq t = true → t ∈ ts ∨ (t = nt ∧ nt ≠ 0))
    (hw : AllC (fun x => TN NL (wc.map Prod.fst) τ x.1 = τ x.1 ∨ E x.1) wc) :
    (∀ z, τ z ≠ 0 → ¬ E z → TN NL (wc.map Prod.fst) τ z = τ z) ∧ XU (TN NL (wc.map Prod.fst) τ) ∧ (∀ q, TN NL (wc.map Prod.fst) τ q ≠ 0 → A q) ∧ ∀ q, q < H.size → τ q = 0 → TN NL (wc.map Prod.fst) τ q = 0 := by
  have nd : (NL.map Prod.fst).Nodup := by rw [hN]; exact vd_nd hD1
  have inA : ∀ q, q ∈ NL.map Prod.fst → va_A wc H.size q := fun q hq => by
    rw [hN] at hq
    obtain ⟨⟨q', e⟩, m1, m2⟩ := List.mem_map.mp hq
    obtain ⟨k, hk⟩ := List.getElem?_of_mem m1
    have m2' : q' = q := m2
    subst m2'
    exact hD1.2 k _ hk
  have tag : ∀ q, q ∈ NL.map Prod.fst → ∃ i, ts1[i]? = some (TN NL (wc.map Prod.fst) τ q) ∧ ∀ t, NL[i]? = some (q, t) → True := fun q hq => by
    obtain ⟨i, t, hi⟩ := NL_at hq
    refine ⟨i, ?_, fun _ _ => trivial⟩
    rw [TN_new nd hi, ← e1, List.getElem?_map, hi]; rfl
  refine ⟨fun z hz hE => ?_, fun q q' he h0 h4 => ?_, fun q hq => ?_, fun q h1 h2 => ?_⟩
  · by_cases m : z ∈ wc.map Prod.fst
    · obtain ⟨⟨z', e⟩, m1, m2⟩ := List.mem_map.mp m
      obtain ⟨k, hk⟩ := List.getElem?_of_mem m1
      have m2' : z' = z := m2
      subst m2'
      exact (hw.at k _ hk).resolve_right hE
    · exact TN_keep h hD1 hN hz m
  · by_cases a : q ∈ NL.map Prod.fst
    · obtain ⟨i, t, hi⟩ := NL_at a
      have ti := TN_new (wc := wc.map Prod.fst) (τ := τ) nd hi
      have si : ts1[i]? = some t := by rw [← e1, List.getElem?_map, hi]; rfl
      by_cases b : q' ∈ NL.map Prod.fst
      · obtain ⟨j, t', hj⟩ := NL_at b
        have tj := TN_new (wc := wc.map Prod.fst) (τ := τ) nd hj
        have sj : ts1[j]? = some t' := by rw [← e1, List.getElem?_map, hj]; rfl
        have ett : t = t' := by rw [← ti, ← tj, he]
        subst ett
        have ij := filt_inj nf si sj (by rw [ti] at h4; exact h4)
        subst ij
        rw [hi] at hj
        exact (Prod.mk.inj (Option.some.inj hj)).1
      · have z0 : TN NL (wc.map Prod.fst) τ q' ≠ 0 := by rw [← he]; exact h0
        obtain ⟨nw, et⟩ := TN_z b z0
        have mt : t ∈ ts := (sub t (List.mem_of_getElem? si) (by rw [← ti]; exact h4)).resolve_right (fun y => (hnt.resolve_left y.2) q' (by rw [← et, ← he, ti]; exact y.1))
        rw [← eT] at mt
        obtain ⟨c, mc, ec⟩ := List.mem_map.mp mt
        have : c.1 = q' := hU c.1 q' (by rw [ec, ← et, ← he, ti]) (by rw [ec, ← ti]; exact h0) (by rw [ec, ← ti]; exact h4)
        exact absurd (List.mem_map.mpr ⟨c, mc, this⟩) nw
    · obtain ⟨nw, et⟩ := TN_z a h0
      by_cases b : q' ∈ NL.map Prod.fst
      · obtain ⟨j, t', hj⟩ := NL_at b
        have tj := TN_new (wc := wc.map Prod.fst) (τ := τ) nd hj
        have sj : ts1[j]? = some t' := by rw [← e1, List.getElem?_map, hj]; rfl
        have mt : t' ∈ ts := (sub t' (List.mem_of_getElem? sj) (by rw [← tj, ← he]; exact h4)).resolve_right (fun y => (hnt.resolve_left y.2) q (by rw [← et, he, tj]; exact y.1))
        rw [← eT] at mt
        obtain ⟨c, mc, ec⟩ := List.mem_map.mp mt
        have : c.1 = q := hU c.1 q (by rw [ec, ← et, he, tj]) (by rw [ec, ← tj, ← he]; exact h0) (by rw [ec, ← tj, ← he]; exact h4)
        exact absurd (List.mem_map.mpr ⟨c, mc, this⟩) nw
      · have z0 : TN NL (wc.map Prod.fst) τ q' ≠ 0 := by rw [← he]; exact h0
        obtain ⟨-, et'⟩ := TN_z b z0
        exact hU q q' (by rw [← et, ← et', he]) (by rw [← et]; exact h0) (by rw [← et]; exact h4)
  · by_cases a : q ∈ NL.map Prod.fst
    · exact hFc q (inA q a)
    · obtain ⟨-, et⟩ := TN_z a hq
      exact hAt q (by rw [← et]; exact hq)
  · have nw : q ∉ wc.map Prod.fst := fun z => by
      obtain ⟨⟨q', e⟩, m1, m2⟩ := List.mem_map.mp z
      obtain ⟨k, hk⟩ := List.getElem?_of_mem m1
      have m2' : q' = q := m2
      subst m2'
      exact vt_nz eT nz hk h2
    have nn : q ∉ NL.map Prod.fst := fun z => by
      rcases inA q z with ⟨k, e, y⟩ | y
      · exact nw (List.mem_map.mpr ⟨_, List.mem_of_getElem? y, rfl⟩)
      · exact absurd h1 (Nat.not_lt.mpr y)
    rw [TN_old nn nw]; exact h2
set_option maxHeartbeats 4000000 in
theorem OKc_dom {cs : Nat → ClassId} {g : GH} {τ : Nat → Nat} {q t : Nat} {e : va_E} (h : OKc cs g τ q t e) : t ∈ [1, 2, 3, 4, 5, 6, 7, 8, 9, 10, 11, 12, 13, 14, 15, 16, 17, 18, 19, 20, 21, 22, 23, 24, 25, 26, 27, 28, 29, 30, 31, 32, 33, 34, 35, 36, 40, 41, 42, 43, 44, 45, 46, 47, 48, 49, 50, 51, 52, 53, 54, 55, 60, 61, 62, 63, 64, 65, 70, 71, 72, 73, 80, 81, 82, 83, 84, 85, 86, 87, 88, 89, 90] := by
  unfold OKc at h
  split at h
  all_goals first | decide | exact h.elim
set_option maxHeartbeats 40000000 in
set_option maxRecDepth 100000 in
theorem OKc_mono {cs : Nat → ClassId} {g g' : GH} {τ τ' : Nat → Nat} {q t : Nat} {e : va_E} (hm : ∀ z, τ z ≠ 0 → τ z ≠ 30 → τ z ≠ 31 → τ' z = τ z) (h40 : g'.2.2.1 → q = g'.1 → g.2.2.1 ∧ q = g.1) (n1 : t = 1 → g' = g) (n27 : t = 27 → g'.1 = g.1 ∧ g'.2.2.1 = g.2.2.1) (n29 : t = 29 → ∀ z, τ z ≠ 0 → τ' z = τ z) (h26 : t = 26 → g'.2.2.2 = g.2.2.2) (h70 : ∀ k, t = 70 + k → g'.2.2.2 k = g.2.2.2 k) (h : OKc cs g τ q t e) : OKc cs g' τ' q t e := by
  have hd := OKc_dom h
  have mv : ∀ {z k : Nat}, τ z = k → k ≠ 0 → k ≠ 30 → k ≠ 31 → τ' z = k := fun {z k} a b c d => (hm z (by rw [a]; exact b) (by rw [a]; exact c) (by rw [a]; exact d)).trans a
  simp only [List.mem_cons, List.not_mem_nil, or_false] at hd
  rcases hd with rfl | rfl | rfl | rfl | rfl | rfl | rfl | rfl | rfl | rfl | rfl | rfl | rfl | rfl | rfl | rfl | rfl | rfl | rfl | rfl | rfl | rfl | rfl | rfl | rfl | rfl | rfl | rfl | rfl | rfl | rfl | rfl | rfl | rfl | rfl | rfl | rfl | rfl | rfl | rfl | rfl | rfl | rfl | rfl | rfl | rfl | rfl | rfl | rfl | rfl | rfl | rfl | rfl | rfl | rfl | rfl | rfl | rfl | rfl | rfl | rfl | rfl | rfl | rfl | rfl | rfl | rfl | rfl | rfl | rfl | rfl | rfl | rfl
  · have eg := n1 rfl
    subst eg
    obtain ⟨tape_, fairReader_, ruleReader_, rules_, ruleCount_, scene_, spare_, past_, pastFirst_, pastCount_, trials_, images_, pairs_, walker_, market_, rfl, w0, w1, w2, w3, w4, w5, w6, w7, w8, w9, w10, w11, w12, w13, w14, w15, w16⟩ : OK1 cs g' τ q e := h
    exact (show OK1 cs g' τ' q _ from ⟨tape_, fairReader_, ruleReader_, rules_, ruleCount_, scene_, spare_, past_, pastFirst_, pastCount_, trials_, images_, pairs_, walker_, market_, rfl, mv w0 (by decide) (by decide) (by decide), mv w1 (by decide) (by decide) (by decide), mv w2 (by decide) (by decide) (by decide), mv w3 (by decide) (by decide) (by decide), w4, mv w5 (by decide) (by decide) (by decide), mv w6 (by decide) (by decide) (by decide), mv w7 (by decide) (by decide) (by decide), mv w8 (by decide) (by decide) (by decide), w9, w10, mv w11 (by decide) (by decide) (by decide), mv w12 (by decide) (by decide) (by decide), mv w13 (by decide) (by decide) (by decide), mv w14 (by decide) (by decide) (by decide), mv w15 (by decide) (by decide) (by decide), w16⟩)
  · obtain ⟨bytes_, length_, place_, fault_, rfl, w0, w1, w2, w3⟩ : OK2 cs g τ q e := h
    exact (show OK2 cs g' τ' q _ from ⟨bytes_, length_, place_, fault_, rfl, mv w0 (by decide) (by decide) (by decide), w1, w2, w3⟩)
  · obtain ⟨f, rfl, w0⟩ : OK3 cs g τ q e := h
    exact (show OK3 cs g' τ' q _ from ⟨f, rfl, w0⟩)
  · obtain ⟨tape_, told_, kindsTold_, rfl⟩ : OK4 cs g τ q e := h
    exact (show OK4 cs g' τ' q _ from ⟨tape_, told_, kindsTold_, rfl⟩)
  · obtain ⟨tape_, code_, length_, parts_, rfl, w0, w1⟩ : OK5 cs g τ q e := h
    exact (show OK5 cs g' τ' q _ from ⟨tape_, code_, length_, parts_, rfl, mv w0 (by decide) (by decide) (by decide), w1⟩)
  · obtain ⟨f, rfl⟩ : OK6 cs g τ q e := h
    exact (show OK6 cs g' τ' q _ from ⟨f, rfl⟩)
  · obtain ⟨f, rfl, w0⟩ : OK7 cs g τ q e := h
    exact (show OK7 cs g' τ' q _ from ⟨f, rfl, fun i hi => (w0 i hi).imp id (fun ⟨z, a, b⟩ => ⟨z, a, mv b (by decide) (by decide) (by decide)⟩)⟩)
  · obtain ⟨hour_, purse_, spot_, seen_, has_, at_, rfl, w0, w1, w2, w3, w4⟩ : OK8 cs g τ q e := h
    exact (show OK8 cs g' τ' q _ from ⟨hour_, purse_, spot_, seen_, has_, at_, rfl, mv w0 (by decide) (by decide) (by decide), mv w1 (by decide) (by decide) (by decide), mv w2 (by decide) (by decide) (by decide), mv w3 (by decide) (by decide) (by decide), mv w4 (by decide) (by decide) (by decide)⟩)
  · obtain ⟨f, rfl⟩ : OK9 cs g τ q e := h
    exact (show OK9 cs g' τ' q _ from ⟨f, rfl⟩)
  · obtain ⟨f, rfl⟩ : OK10 cs g τ q e := h
    exact (show OK10 cs g' τ' q _ from ⟨f, rfl⟩)
  · obtain ⟨f, rfl⟩ : OK11 cs g τ q e := h
    exact (show OK11 cs g' τ' q _ from ⟨f, rfl⟩)
  · obtain ⟨f, rfl⟩ : OK12 cs g τ q e := h
    exact (show OK12 cs g' τ' q _ from ⟨f, rfl⟩)
  · obtain ⟨f, rfl⟩ : OK13 cs g τ q e := h
    exact (show OK13 cs g' τ' q _ from ⟨f, rfl⟩)
  · obtain ⟨hour_, purse_, spot_, seen_, has_, at_, rfl, w0, w1, w2, w3, w4⟩ : OK14 cs g τ q e := h
    exact (show OK14 cs g' τ' q _ from ⟨hour_, purse_, spot_, seen_, has_, at_, rfl, mv w0 (by decide) (by decide) (by decide), mv w1 (by decide) (by decide) (by decide), mv w2 (by decide) (by decide) (by decide), mv w3 (by decide) (by decide) (by decide), mv w4 (by decide) (by decide) (by decide)⟩)
  · obtain ⟨f, rfl⟩ : OK15 cs g τ q e := h
    exact (show OK15 cs g' τ' q _ from ⟨f, rfl⟩)
  · obtain ⟨f, rfl⟩ : OK16 cs g τ q e := h
    exact (show OK16 cs g' τ' q _ from ⟨f, rfl⟩)
  · obtain ⟨f, rfl⟩ : OK17 cs g τ q e := h
    exact (show OK17 cs g' τ' q _ from ⟨f, rfl⟩)
  · obtain ⟨f, rfl⟩ : OK18 cs g τ q e := h
    exact (show OK18 cs g' τ' q _ from ⟨f, rfl⟩)
  · obtain ⟨f, rfl⟩ : OK19 cs g τ q e := h
    exact (show OK19 cs g' τ' q _ from ⟨f, rfl⟩)
  · obtain ⟨f, rfl, w0⟩ : OK20 cs g τ q e := h
    exact (show OK20 cs g' τ' q _ from ⟨f, rfl, fun i hi => (w0 i hi).imp (fun z y => ⟨y.1, mv y.2 (by decide) (by decide) (by decide)⟩)⟩)
  · obtain ⟨size_, fewest_, honest_, pair_, one_, other_, fitted_, rfl, w0, w1, w2, w3, w4⟩ : OK21 cs g τ q e := h
    exact (show OK21 cs g' τ' q _ from ⟨size_, fewest_, honest_, pair_, one_, other_, fitted_, rfl, w0, mv w1 (by decide) (by decide) (by decide), mv w2 (by decide) (by decide) (by decide), mv w3 (by decide) (by decide) (by decide), mv w4 (by decide) (by decide) (by decide)⟩)
  · obtain ⟨f, rfl⟩ : OK22 cs g τ q e := h
    exact (show OK22 cs g' τ' q _ from ⟨f, rfl⟩)
  · obtain ⟨f, rfl, w0⟩ : OK23 cs g τ q e := h
    exact (show OK23 cs g' τ' q _ from ⟨f, rfl, w0⟩)
  · obtain ⟨f, rfl, w0⟩ : OK24 cs g τ q e := h
    exact (show OK24 cs g' τ' q _ from ⟨f, rfl, w0⟩)
  · obtain ⟨f, rfl⟩ : OK25 cs g τ q e := h
    exact (show OK25 cs g' τ' q _ from ⟨f, rfl⟩)
  · obtain ⟨f, rfl, w0⟩ : OK26 cs g τ q e := h
    exact (show OK26 cs g' τ' q _ from ⟨f, rfl, fun i hi => by rw [h26 rfl]; exact (w0 i hi).imp id (fun ⟨z, v, a, b, d⟩ => ⟨z, v, a, mv b (by omega) (by omega) (by omega), d⟩)⟩)
  · obtain ⟨told_, known_, rfl, w0, w1⟩ : OK27 cs g τ q e := h
    exact (show OK27 cs g' τ' q _ from ⟨told_, known_, rfl, by rw [(n27 rfl).1, (n27 rfl).2]; exact w0, mv w1 (by decide) (by decide) (by decide)⟩)
  · obtain ⟨f, rfl⟩ : OK28 cs g τ q e := h
    exact (show OK28 cs g' τ' q _ from ⟨f, rfl⟩)
  · obtain ⟨here_, next_, ways_, stallOf_, told_, pairs_, has_, purse_, bestWays_, most_, bought_, rfl, w0, w1, w2⟩ : OK29 cs g τ q e := h
    exact (show OK29 cs g' τ' q _ from ⟨here_, next_, ways_, stallOf_, told_, pairs_, has_, purse_, bestWays_, most_, bought_, rfl, (n29 rfl _ (by rw [w0]; decide)).trans w0, (n29 rfl _ (by rw [w1]; decide)).trans w1, w2.imp (fun y => ⟨(n29 rfl _ (by rw [y.1]; decide)).trans y.1, (n29 rfl _ (by rw [y.2]; decide)).trans y.2⟩) (fun y => ⟨(n29 rfl _ (by rw [y.1]; decide)).trans y.1, (n29 rfl _ (by rw [y.2]; decide)).trans y.2⟩)⟩)
  · obtain ⟨f, rfl⟩ : OK30 cs g τ q e := h
    exact (show OK30 cs g' τ' q _ from ⟨f, rfl⟩)
  · obtain ⟨f, rfl⟩ : OK31 cs g τ q e := h
    exact (show OK31 cs g' τ' q _ from ⟨f, rfl⟩)
  · obtain ⟨f, rfl⟩ : OK32 cs g τ q e := h
    exact (show OK32 cs g' τ' q _ from ⟨f, rfl⟩)
  · obtain ⟨f, rfl, w0⟩ : OK33 cs g τ q e := h
    exact (show OK33 cs g' τ' q _ from ⟨f, rfl, w0⟩)
  · obtain ⟨stack_, told_, scene_, rule_, words_, buyer_, saw_, stalls_, bought_, x_, rfl, w0, w1, w2⟩ : OK34 cs g τ q e := h
    exact (show OK34 cs g' τ' q _ from ⟨stack_, told_, scene_, rule_, words_, buyer_, saw_, stalls_, bought_, x_, rfl, mv w0 (by decide) (by decide) (by decide), mv w1 (by decide) (by decide) (by decide), w2⟩)
  · obtain ⟨f, rfl⟩ : OK35 cs g τ q e := h
    exact (show OK35 cs g' τ' q _ from ⟨f, rfl⟩)
  · obtain ⟨f, rfl⟩ : OK36 cs g τ q e := h
    exact (show OK36 cs g' τ' q _ from ⟨f, rfl⟩)
  · obtain ⟨stalls_, shift_, halves_, buyers_, near_, dusk_, duskPrice_, hear_, forged_, stall_, shape_, side_, price_, purse_, spot_, club_, fitting_, nearly_, rfl, w0, w1, w2, w3, w4, w5, w6, w7, w8, w9, w10, w11, w12⟩ : OK40 cs g τ q e := h
    exact (show OK40 cs g' τ' q _ from ⟨stalls_, shift_, halves_, buyers_, near_, dusk_, duskPrice_, hear_, forged_, stall_, shape_, side_, price_, purse_, spot_, club_, fitting_, nearly_, rfl, w0, w1, w2, mv w3 (by decide) (by decide) (by decide), mv w4 (by decide) (by decide) (by decide), mv w5 (by decide) (by decide) (by decide), mv w6 (by decide) (by decide) (by decide), mv w7 (by decide) (by decide) (by decide), mv w8 (by decide) (by decide) (by decide), mv w9 (by decide) (by decide) (by decide), mv w10 (by decide) (by decide) (by decide), mv w11 (by decide) (by decide) (by decide), fun y z => w12 (h40 z y).2 (h40 z y).1⟩)
  · obtain ⟨f, rfl⟩ : OK41 cs g τ q e := h
    exact (show OK41 cs g' τ' q _ from ⟨f, rfl⟩)
  · obtain ⟨f, rfl⟩ : OK42 cs g τ q e := h
    exact (show OK42 cs g' τ' q _ from ⟨f, rfl⟩)
  · obtain ⟨f, rfl⟩ : OK43 cs g τ q e := h
    exact (show OK43 cs g' τ' q _ from ⟨f, rfl⟩)
  · obtain ⟨f, rfl⟩ : OK44 cs g τ q e := h
    exact (show OK44 cs g' τ' q _ from ⟨f, rfl⟩)
  · obtain ⟨f, rfl⟩ : OK45 cs g τ q e := h
    exact (show OK45 cs g' τ' q _ from ⟨f, rfl⟩)
  · obtain ⟨f, rfl⟩ : OK46 cs g τ q e := h
    exact (show OK46 cs g' τ' q _ from ⟨f, rfl⟩)
  · obtain ⟨f, rfl⟩ : OK47 cs g τ q e := h
    exact (show OK47 cs g' τ' q _ from ⟨f, rfl⟩)
  · obtain ⟨f, rfl⟩ : OK48 cs g τ q e := h
    exact (show OK48 cs g' τ' q _ from ⟨f, rfl⟩)
  · obtain ⟨f, rfl⟩ : OK49 cs g τ q e := h
    exact (show OK49 cs g' τ' q _ from ⟨f, rfl⟩)
  · obtain ⟨clauses_, kind_, start_, middle_, end_, code_, rfl, w0, w1, w2, w3, w4, w5⟩ : OK50 cs g τ q e := h
    exact (show OK50 cs g' τ' q _ from ⟨clauses_, kind_, start_, middle_, end_, code_, rfl, w0, mv w1 (by decide) (by decide) (by decide), mv w2 (by decide) (by decide) (by decide), mv w3 (by decide) (by decide) (by decide), mv w4 (by decide) (by decide) (by decide), mv w5 (by decide) (by decide) (by decide)⟩)
  · obtain ⟨f, rfl⟩ : OK51 cs g τ q e := h
    exact (show OK51 cs g' τ' q _ from ⟨f, rfl⟩)
  · obtain ⟨f, rfl, w0⟩ : OK52 cs g τ q e := h
    exact (show OK52 cs g' τ' q _ from ⟨f, rfl, w0⟩)
  · obtain ⟨f, rfl, w0⟩ : OK53 cs g τ q e := h
    exact (show OK53 cs g' τ' q _ from ⟨f, rfl, w0⟩)
  · obtain ⟨f, rfl, w0⟩ : OK54 cs g τ q e := h
    exact (show OK54 cs g' τ' q _ from ⟨f, rfl, w0⟩)
  · obtain ⟨n, f, rfl, w0⟩ : OK55 cs g τ q e := h
    exact (show OK55 cs g' τ' q _ from ⟨n, f, rfl, w0⟩)
  · obtain ⟨hour_, purse_, spot_, seen_, has_, at_, rfl, w0, w1, w2, w3, w4⟩ : OK60 cs g τ q e := h
    exact (show OK60 cs g' τ' q _ from ⟨hour_, purse_, spot_, seen_, has_, at_, rfl, mv w0 (by decide) (by decide) (by decide), mv w1 (by decide) (by decide) (by decide), mv w2 (by decide) (by decide) (by decide), mv w3 (by decide) (by decide) (by decide), mv w4 (by decide) (by decide) (by decide)⟩)
  · obtain ⟨f, rfl⟩ : OK61 cs g τ q e := h
    exact (show OK61 cs g' τ' q _ from ⟨f, rfl⟩)
  · obtain ⟨f, rfl⟩ : OK62 cs g τ q e := h
    exact (show OK62 cs g' τ' q _ from ⟨f, rfl⟩)
  · obtain ⟨f, rfl⟩ : OK63 cs g τ q e := h
    exact (show OK63 cs g' τ' q _ from ⟨f, rfl⟩)
  · obtain ⟨f, rfl⟩ : OK64 cs g τ q e := h
    exact (show OK64 cs g' τ' q _ from ⟨f, rfl⟩)
  · obtain ⟨f, rfl⟩ : OK65 cs g τ q e := h
    exact (show OK65 cs g' τ' q _ from ⟨f, rfl⟩)
  · obtain ⟨told_, scene_, trials_, x_, rfl, w0, w1, w2, w3, w4⟩ : OK70 cs g τ q e := h
    exact (show OK70 cs g' τ' q _ from ⟨told_, scene_, trials_, x_, rfl, mv w0 (by decide) (by decide) (by decide), mv w1 (by decide) (by decide) (by decide), mv w2 (by decide) (by decide) (by decide), by rw [h70 0 rfl]; exact w3, w4⟩)
  · obtain ⟨told_, scene_, trials_, x_, rfl, w0, w1, w2, w3, w4⟩ : OK71 cs g τ q e := h
    exact (show OK71 cs g' τ' q _ from ⟨told_, scene_, trials_, x_, rfl, mv w0 (by decide) (by decide) (by decide), mv w1 (by decide) (by decide) (by decide), mv w2 (by decide) (by decide) (by decide), by rw [h70 1 rfl]; exact w3, w4⟩)
  · obtain ⟨told_, scene_, trials_, x_, rfl, w0, w1, w2, w3, w4⟩ : OK72 cs g τ q e := h
    exact (show OK72 cs g' τ' q _ from ⟨told_, scene_, trials_, x_, rfl, mv w0 (by decide) (by decide) (by decide), mv w1 (by decide) (by decide) (by decide), mv w2 (by decide) (by decide) (by decide), by rw [h70 2 rfl]; exact w3, w4⟩)
  · obtain ⟨told_, scene_, trials_, x_, rfl, w0, w1, w2, w3, w4⟩ : OK73 cs g τ q e := h
    exact (show OK73 cs g' τ' q _ from ⟨told_, scene_, trials_, x_, rfl, mv w0 (by decide) (by decide) (by decide), mv w1 (by decide) (by decide) (by decide), mv w2 (by decide) (by decide) (by decide), by rw [h70 3 rfl]; exact w3, w4⟩)
  · obtain ⟨hour_, purse_, spot_, seen_, has_, at_, rfl, w0, w1, w2, w3, w4⟩ : OK80 cs g τ q e := h
    exact (show OK80 cs g' τ' q _ from ⟨hour_, purse_, spot_, seen_, has_, at_, rfl, mv w0 (by decide) (by decide) (by decide), mv w1 (by decide) (by decide) (by decide), mv w2 (by decide) (by decide) (by decide), mv w3 (by decide) (by decide) (by decide), mv w4 (by decide) (by decide) (by decide)⟩)
  · obtain ⟨f, rfl⟩ : OK81 cs g τ q e := h
    exact (show OK81 cs g' τ' q _ from ⟨f, rfl⟩)
  · obtain ⟨f, rfl⟩ : OK82 cs g τ q e := h
    exact (show OK82 cs g' τ' q _ from ⟨f, rfl⟩)
  · obtain ⟨f, rfl⟩ : OK83 cs g τ q e := h
    exact (show OK83 cs g' τ' q _ from ⟨f, rfl⟩)
  · obtain ⟨f, rfl⟩ : OK84 cs g τ q e := h
    exact (show OK84 cs g' τ' q _ from ⟨f, rfl⟩)
  · obtain ⟨f, rfl⟩ : OK85 cs g τ q e := h
    exact (show OK85 cs g' τ' q _ from ⟨f, rfl⟩)
  · obtain ⟨size_, fewest_, honest_, pair_, one_, other_, fitted_, rfl, w0, w1, w2, w3, w4⟩ : OK86 cs g τ q e := h
    exact (show OK86 cs g' τ' q _ from ⟨size_, fewest_, honest_, pair_, one_, other_, fitted_, rfl, w0, mv w1 (by decide) (by decide) (by decide), mv w2 (by decide) (by decide) (by decide), mv w3 (by decide) (by decide) (by decide), mv w4 (by decide) (by decide) (by decide)⟩)
  · obtain ⟨f, rfl⟩ : OK87 cs g τ q e := h
    exact (show OK87 cs g' τ' q _ from ⟨f, rfl⟩)
  · obtain ⟨f, rfl, w0⟩ : OK88 cs g τ q e := h
    exact (show OK88 cs g' τ' q _ from ⟨f, rfl, w0⟩)
  · obtain ⟨f, rfl, w0⟩ : OK89 cs g τ q e := h
    exact (show OK89 cs g' τ' q _ from ⟨f, rfl, w0⟩)
  · obtain ⟨f, rfl⟩ : OK90 cs g τ q e := h
    exact (show OK90 cs g' τ' q _ from ⟨f, rfl⟩)
