/-! the class past a call of the reference -/
section
variable {h : jw_H} {α : pzA}
theorem pwA.fr {P : Nat → Nat → Prop} {h' : jw_H} (A : pwA h α) (F : pxF P h h') (n : ∀ k f, P k f → 587 ≤ k) : pwA h' α := by
  obtain ⟨C, Tp, Sc, I, Y, D, e13, e14, X⟩ := A
  have n' : ∀ k f, k ≤ 586 → ¬ P k f := fun k f a z => by have := n k f z; omega
  exact ⟨C.fr F (fun f _ => n' _ _ (by omega)) (fun f => n' _ _ (by omega)), Tp.fr F (n' _ _ (by omega)) (fun f => n' _ _ (by omega)), Sc.fr F (fun k f _ _ => n' _ _ (by omega)), pxIT.fr I F (fun k f _ _ => n' _ _ (by omega)), pxIS.fr Y F (fun k f _ _ => n' _ _ (by omega)), D.fr F (fun k f z => n' _ _ (by omega)), by rw [F.m (n' _ _ (by omega))]; exact e13, by rw [F.m (n' _ _ (by omega))]; exact e14, X.fr F (fun k f _ _ => n' _ _ (by omega))⟩
end
