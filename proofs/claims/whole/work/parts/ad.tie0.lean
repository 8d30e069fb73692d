/-! ===== what is told depends on land, law and party alone ===== -/
def piF (F : FI) : FI := fun c => if c = 100 then F 100 else if c = 112 then F 112 else if c = 97 then (fun i => if i = 13 then F 97 13 else 0) else if c = 102 then F 102 else if c = 103 then F 103 else if c = 106 then F 106 else if c = 107 then F 107 else fun _ => 0
theorem pi_e {F F' : FI} (h : F' 100 = F 100 ∧ F' 112 = F 112 ∧ F' 97 13 = F 97 13 ∧ F' 102 = F 102 ∧ F' 103 = F 103 ∧ F' 106 = F 106 ∧ F' 107 = F 107) : piF F' = piF F := by
  obtain ⟨h1, h2, h3, h4, h5, h6, h7⟩ := h
  unfold piF
  rw [h1, h2, h3, h4, h5, h6, h7]
theorem pi_B (F : FI) : cBs (piF F) = cBs F := rfl
theorem pi_M (F : FI) : mk0 (piF F) = mk0 F := rfl
theorem pi_L (F : FI) : mL (piF F) = mL F := rfl
theorem pi_Nx (F : FI) : sNext (piF F) = sNext F := rfl
theorem pi_Al (F : FI) : sAlone (piF F) = sAlone F := rfl
theorem pi_Gn (F : FI) : sGn (piF F) = sGn F := rfl
theorem pi_Jg (F : FI) : ∀ K, sJg (piF F) K = sJg F K := by
  intro K
  induction K with
  | zero => rfl
  | succ K ih => funext k p n; unfold sJg; rw [ih]; rfl
theorem pi_Pr (F : FI) (k0 : Int) : ∀ K, sPr (piF F) k0 K = sPr F k0 K := by
  intro K
  induction K with
  | zero => rfl
  | succ K ih => funext h p n; unfold sPr; rw [ih]; rfl
theorem pi_GvB (F : FI) (a b : Int) : ∀ K, sGvB (piF F) a b K = sGvB F a b K := by
  intro K
  induction K with
  | zero => rfl
  | succ K ih => funext j; unfold sGvB; rw [ih]; rfl
theorem pi_HlB (F : FI) (a : Int) : ∀ K, sHlB (piF F) a K = sHlB F a K := by
  intro K
  induction K with
  | zero => rfl
  | succ K ih => funext j; unfold sHlB; rw [ih]; rfl
theorem pi_SwB (F : FI) (p q a : Int) : ∀ K, sSwB (piF F) p q a K = sSwB F p q a K := by
  intro K
  induction K with
  | zero => rfl
  | succ K ih => funext j; unfold sSwB; rw [ih]; rfl
theorem pi_GvA (F : FI) : ∀ K, sGvA (piF F) K = sGvA F K := by
  intro K
  induction K with
  | zero => rfl
  | succ K ih => funext h; unfold sGvA; simp only [pi_GvB]; rw [ih]; rfl
theorem pi_OrV (F : FI) : sOrV (piF F) = sOrV F := rfl
theorem pi_Ln (F : FI) (w : Int) : ∀ K, sLn (piF F) w K = sLn F w K := by
  intro K
  induction K with
  | zero => rfl
  | succ K ih => unfold sLn; rw [ih]; rfl
theorem pi_Trp (F : FI) : sTrp (piF F) = sTrp F := rfl
theorem pi_Fc (F : FI) (p h n : Int) : ∀ K, sFc (piF F) p h n K = sFc F p h n K := by
  intro K
  induction K with
  | zero => rfl
  | succ K ih => funext m; unfold sFc; rw [ih]; rfl
theorem pi_Ever (F : FI) : sEver (piF F) = sEver F := rfl
theorem pi_Ed (F : FI) : sEd (piF F) = sEd F := rfl
theorem pi_Ask (F : FI) (k0 : Int) : ∀ K, sAsk (piF F) k0 K = sAsk F k0 K := by
  intro K
  induction K with
  | zero => rfl
  | succ K ih => unfold sAsk; rw [ih]; rfl
theorem pi_HlA (F : FI) : ∀ K, sHlA (piF F) K = sHlA F K := by
  intro K
  induction K with
  | zero => rfl
  | succ K ih => funext a; unfold sHlA; simp only [pi_HlB]; rw [ih]; rfl
theorem pi_Wo (F : FI) : sWo (piF F) = sWo F := rfl
theorem pi_SwA (F : FI) (p q : Int) : ∀ K, sSwA (piF F) p q K = sSwA F p q K := by
  intro K
  induction K with
  | zero => rfl
  | succ K ih => funext a; unfold sSwA; simp only [pi_SwB]; rw [ih]; rfl
theorem pi_Su (F : FI) : sSu (piF F) = sSu F := rfl
theorem pi_Tr (F : FI) (sd : Int) : ∀ K, sTr (piF F) sd K = sTr F sd K := by
  intro K
  induction K with
  | zero => rfl
  | succ K ih => unfold sTr; rw [ih]; rfl
theorem pi_JL (F : FI) : JL (piF F) = JL F := by
  funext a b
  unfold JL
  simp only [pi_Tr]
  rfl
theorem pi_JK (F : FI) : JK (piF F) = JK F := by
  funext a b c d
  unfold JK
  simp only [pi_Tr]
  rfl
