/-! THE REFERENCE: one object (kind 70) and its rows (kinds 71 to 90) -/
abbrev mdO (B : gB) (th nc rg cm ld mg : Int) : Option va_E := some (.inr (8, [.int (zI th), .int (zI nc), .int (zI rg), .int (zI cm), .int (zI ld), .ref (B 71 0), .ref (B 72 0), .ref (B 73 0), .ref (B 74 0), .ref (B 75 0), .ref (B 76 0), .ref (B 77 0), .ref (B 78 0), .ref (B 79 0), .ref (B 80 0), .ref (B 81 0), .ref (B 82 0), .ref (B 83 0), .ref (B 84 0), .ref (B 85 0), .ref (B 86 0), .ref (B 87 0), .ref (B 88 0), .ref (B 89 0), .ref (B 90 0), .int (zI mg)]))
/-- a row that holds numbers of the state -/
def row (Z : gZ) (C : gC) (k n : Nat) (G : Nat → Nat) : Prop := ∃ F : Nat → Int, C k 0 = some (gJ Z n F) ∧ ∀ i, i < n → F i = (G i : Int)
def mtx (F Fs : Nat → Int) (T : gTx) : Prop := (∀ s, s < 25 → Fs s = ((T s).length : Int)) ∧ ∀ s, s < 25 → ∀ k, k < (T s).length → F (12 * s + k) = (T s).getD k (-1)
def scr (Z : gZ) (C : gC) (k n : Nat) : Prop := ∃ F : Nat → Int, C k 0 = some (gJ Z n F)
/-- the reference's state -/
def md (Z : gZ) (B : gB) (C : gC) (S : gS) (T : gTx) (th : Int) : Prop :=
  (∃ mg : Int, C 70 0 = mdO B th (S 0 0 : Int) (S 0 1 : Int) (S 0 2 : Int) (S 0 3 : Int) mg) ∧
  (∃ F Fs : Nat → Int, C 71 0 = some (gJ Z 312 F) ∧ C 72 0 = some (gJ Z 26 Fs) ∧ mtx F Fs T) ∧
  row Z C 73 6 (S 8) ∧ row Z C 74 6 (S 9) ∧ row Z C 75 6 (S 10) ∧ row Z C 76 4 (S 1) ∧ row Z C 77 4 (S 2) ∧ row Z C 78 4 (S 3) ∧ row Z C 79 4 (S 4) ∧ row Z C 80 4 (S 5) ∧ row Z C 81 4 (S 6) ∧ row Z C 82 20 (S 7) ∧
  row Z C 83 12 (S 11) ∧ row Z C 84 12 (S 12) ∧ row Z C 85 12 (S 13) ∧ row Z C 86 12 (S 14) ∧ scr Z C 87 169 ∧ scr Z C 88 12 ∧ scr Z C 89 12 ∧ scr Z C 90 12
/-- what the script between two texts says, as the reference holds it -/
def mto (Z : gZ) (C : gC) (a b : List Int) : Prop := (∃ F : Nat → Int, C 88 0 = some (gJ Z 12 F) ∧ ∀ i, i < 12 → F i = enc (kt a b i)) ∧ ∃ F : Nat → Int, C 89 0 = some (gJ Z 12 F) ∧ ∀ i, i < 12 → F i = enc (kf a b i)
/-- only the reference has changed -/
def fmd (C C' : gC) : Prop := ∀ k' i', ¬ (70 ≤ k' ∧ k' ≤ 90 ∧ i' = 0) → C' k' i' = C k' i'
theorem fmd.rfl' {C : gC} : fmd C C := fun _ _ _ => rfl
theorem fmd.trans {C C1 C2 : gC} (h1 : fmd C C1) (h2 : fmd C1 C2) : fmd C C2 := fun k' i' h => (h2 k' i' h).trans (h1 k' i' h)
theorem row.kept {Z : gZ} {C C' : gC} {k n : Nat} {G : Nat → Nat} (h : row Z C k n G) (e : C' k 0 = C k 0) : row Z C' k n G := by
  obtain ⟨F, h1, h2⟩ := h
  exact ⟨F, e.trans h1, h2⟩
theorem scr.kept {Z : gZ} {C C' : gC} {k n : Nat} (h : scr Z C k n) (e : C' k 0 = C k 0) : scr Z C' k n := by
  obtain ⟨F, h1⟩ := h
  exact ⟨F, e.trans h1⟩
theorem kt_out {a b : List Int} {i : Nat} (h : a.length ≤ i) : kt a b i = none := by
  cases e : kt a b i with
  | none => rfl
  | some p => have := (kt_lt a b i p e).1; omega
theorem kf_out {a b : List Int} {i : Nat} (h : b.length ≤ i) : kf a b i = none := by
  cases e : kf a b i with
  | none => rfl
  | some p => have := (kf_lt a b p i e).2; omega
/-- only the working rows of the reference have changed: costs, where lines are kept -/
theorem md.work {Z : gZ} {B : gB} {C C' : gC} {S : gS} {T : gTx} {th : Int} (h : md Z B C S T th) (h7 : scr Z C' 87 169) (h8 : scr Z C' 88 12) (h9 : scr Z C' 89 12) (h0 : scr Z C' 90 12) (hf : ∀ k', 70 ≤ k' → k' ≤ 86 → C' k' 0 = C k' 0) : md Z B C' S T th := by
  obtain ⟨⟨mg, a0⟩, ⟨F, Fs, a1, a2, a3⟩, b1, b2, b3, b4, b5, b6, b7, b8, b9, b10, b11, b12, b13, b14, -⟩ := h
  exact ⟨⟨mg, (hf _ (by omega) (by omega)).trans a0⟩, ⟨F, Fs, (hf _ (by omega) (by omega)).trans a1, (hf _ (by omega) (by omega)).trans a2, a3⟩, b1.kept (hf _ (by omega) (by omega)), b2.kept (hf _ (by omega) (by omega)), b3.kept (hf _ (by omega) (by omega)), b4.kept (hf _ (by omega) (by omega)), b5.kept (hf _ (by omega) (by omega)), b6.kept (hf _ (by omega) (by omega)), b7.kept (hf _ (by omega) (by omega)), b8.kept (hf _ (by omega) (by omega)), b9.kept (hf _ (by omega) (by omega)), b10.kept (hf _ (by omega) (by omega)), b11.kept (hf _ (by omega) (by omega)), b12.kept (hf _ (by omega) (by omega)), b13.kept (hf _ (by omega) (by omega)), b14.kept (hf _ (by omega) (by omega)), h7, h8, h9, h0⟩
