theorem law_true {L : Nat} (hL : L ≤ 2560) (xs : Nat → Int32) : k_law_23 L xs 600 0 0 0 0 1 0 (fun _ => 0) 0 0 (fun _ => 0) 0 0 (fun _ => 0) 0 (fun _ => 0) (fun _ => 0) (fun _ => 0) 0 false (fun _ => 0) 0 (fun _ => 0) (fun _ => 0) (fun _ => 0) 0 0 0 0 0 0 0 false 0 1 0 0 (fun _ => 0) (fun _ => 0) (fun _ => 0) (fun _ => 0) (fun _ => 0) (fun _ => 0) (fun _ => 0) (fun _ => 0) (fun _ => 0) (fun _ => 0) (fun _ => 0) (fun _ => 0) (fun _ => 0) (fun _ => 0) (fun _ => 0) (fun _ => 0) = some true := by
  have hT : JT 0 (fun _ => 0) 0 (fun _ => 0) := ⟨0, fun _ => 0, by omega, rfl, rfl, fun j hj => absurd hj (by omega)⟩
  have hR : JR 0 0 (fun _ => 0) 0 (fun _ => 0) (fun _ => 0) := ⟨rfl, 0, 0, fun _ => 0, by omega, by omega, rfl, rfl, fun j hj => absurd hj (by omega), at0 _, fun j hj => absurd hj (by omega)⟩
  have hP : JP 0 (fun _ => 0) (fun _ => 0) (fun _ => 0) 0 (fun _ => 0) (fun _ => 0) (fun _ => 0) := ⟨0, by omega, rfl, rfl, fun j hj => absurd hj (by omega)⟩
  have hLL : JL 0 false (fun _ => 0) 0 false (fun _ => 0) := ⟨rfl, rfl, fun a b _ _ => by rw [b_0]; rfl⟩
  have hF : JF 0 (fun _ => 0) (fun _ => 0) (fun _ => 0) 0 (fun _ => 0) (fun _ => 0) (fun _ => 0) := ⟨0, by omega, rfl, rfl, fun j hj => absurd hj (by omega)⟩
  have hW : JW 0 (fun _ => 0) 0 (fun _ => 0) := ⟨0, by omega, rfl, rfl, fun j hj => absurd hj (by omega)⟩
  have hO : JO 0 1 0 1 := ⟨rfl, rfl, 0, 1, by omega, by omega, rfl, rfl⟩
  exact law_ind hL xs 600 0 (by omega) (by omega) rfl rfl hO hW hT hR hP hLL hF
