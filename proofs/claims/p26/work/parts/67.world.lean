set_option maxHeartbeats 4000000 in
set_option maxRecDepth 100000 in
/-- the cells that the constructors leave are the first world -/
theorem first_world {D : va_G} {cI cC cO : ClassId} {A : Nat → Prop} {H : Heap} {qR : Nat} {a : Nat → Nat → Nat} {f : Nat → Option Nat} (hf : ∀ i, i < 5 → f i = some (a (i + 2) 0)) (hP : va_P D vwCl (rC cI cC cO qR a f) H) (hD : va_D A (rC cI cC cO qR a f)) : ∃ g : Geo, g.1 = D ∧ g_ty g = tyK cI cC cO ∧ g_ad g 10 0 = qR ∧ g_fl g = false ∧ va_P g.1 vwCl (g_wl g w_0) H ∧ va_D A (g_wl g w_0) := by
  have hnew : va_at D vwCl (a 8 1, .inl (cO, 5, .inr (.inr (.inr (.inr (fun i => some (if i + 2 = 10 then qR else a (i + 2) 0))))))) H := by
    have h1 := hP 26 (a 8 1, .inl (cO, 5, .inr (.inr (.inr (.inr f))))) rfl
    show H[a 8 1]? = some (vp_cell cO (5, .inr (.inr (.inr (.inr (fun i => some (if i + 2 = 10 then qR else a (i + 2) 0)))))))
    have h2 : H[a 8 1]? = some (vp_cell cO (5, .inr (.inr (.inr (.inr f))))) := h1
    rw [h2, vp_cell_q, vp_cell_q]
    exact congrArg some (arrV_congr (fun j hj => by rw [hf j hj, if_neg (show ¬ j + 2 = 10 by omega)]))
  have hP2 := hP.set hD (p := 26) (a := a 8 1) (e0 := .inl (cO, 5, .inr (.inr (.inr (.inr f))))) rfl hnew (fun _ _ => rfl)
  have hD2 := hD.set (p := 26) (a := a 8 1) (e0 := .inl (cO, 5, .inr (.inr (.inr (.inr f))))) (e := .inl (cO, 5, .inr (.inr (.inr (.inr (fun i => some (if i + 2 = 10 then qR else a (i + 2) 0))))))) rfl
  refine ⟨(D, fun o k => if o = 10 then qR else a o k, cI, cC, cO, false), rfl, rfl, rfl, rfl, ?_, ?_⟩
  · exact hP2.sub [1, 2, 3, 4, 5, 6, 7, 8, 9, 10, 11, 12, 13, 14, 15, 16, 17, 18, 19, 20, 21, 22, 23, 24, 27, 28, 29, 30, 31, 32, 33, 34, 35, 36, 37, 38, 39, 40, 41, 42, 43, 44, 45, 46, 47, 48, 49, 50, 51, 52, 53, 54, 55, 56, 57, 58, 59, 60, 61, 62, 63, 64, 65, 66, 67, 68, 69, 70, 71, 72, 73, 74, 75, 76, 77, 78, 79, 80, 81, 82, 83, 84, 85, 86, 87, 88, 89, 25, 26, 0] rfl
  · exact hD2.sub [1, 2, 3, 4, 5, 6, 7, 8, 9, 10, 11, 12, 13, 14, 15, 16, 17, 18, 19, 20, 21, 22, 23, 24, 27, 28, 29, 30, 31, 32, 33, 34, 35, 36, 37, 38, 39, 40, 41, 42, 43, 44, 45, 46, 47, 48, 49, 50, 51, 52, 53, 54, 55, 56, 57, 58, 59, 60, 61, 62, 63, 64, 65, 66, 67, 68, 69, 70, 71, 72, 73, 74, 75, 76, 77, 78, 79, 80, 81, 82, 83, 84, 85, 86, 87, 88, 89, 25, 26, 0] (by decide) rfl
