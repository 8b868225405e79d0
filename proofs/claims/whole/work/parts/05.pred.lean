def L_A_fill_5 (fb : Nat) (post : zS → Prop) (v1 : Int32) (v3 : Int32) : Nat → Int32 → zS → Prop
  | 0, _, _ => False
  | n + 1, v2, S =>
    (v3 ≤ v2 →
    post S) ∧
    (¬ v3 ≤ v2 →
    vp_in v2 576 ∧ ∀ S13 : zS, S13 = z_su S fb (z_ix v2) v1 → ∀ x14 : Int32, x14 = v2 + 1 → L_A_fill_5 fb post v1 v3 n x14 S13)
def P_A_fill (fb : Nat) (v1 : Int32) (S : zS) (post : zS → Prop) : Prop :=
    ∃ k5, L_A_fill_5 fb post v1 576 k5 0 S
def P_P_nearestSide (v0 : Int32) (S : zS) (post : Int32 → zS → Prop) : Prop :=
    post (if 1 < (if v0 < 24 then v0 else 24) then (if v0 < 24 then v0 else 24) else 1) S
def P_P_mustBeSample (v1 : Int32) (v2 : Int32) (S : zS) (post : zS → Prop) : Prop :=
    (v1 < 0 →
    False) ∧
    (¬ v1 < 0 →
    ((S 0 0) ≤ v1 →
    False) ∧
    (¬ (S 0 0) ≤ v1 →
    (v2 < 0 →
    False) ∧
    (¬ v2 < 0 →
    (v2 < (S 0 1) →
    post S) ∧
    (¬ v2 < (S 0 1) →
    False))))
def P_P_paint (v1 : Int32) (v2 : Int32) (v3 : Int32) (S : zS) (post : Int32 → zS → Prop) : Prop :=
    ∀ x6 : Int32, x6 = ((v2 * 24) + v1) → vp_in x6 576 ∧ (¬ (S 1 (z_ix x6)) = v3 →
    vp_in x6 576 ∧ z_bo v3 ∧ ∀ S28 : zS, S28 = z_su S 1 (z_ix x6) v3 → (v3 = 0 →
    ∀ S44 : zS, S44 = z_su S28 0 10 ((S28 0 10) + (-1)) → post 1 S44) ∧
    (¬ v3 = 0 →
    ∀ S44 : zS, S44 = z_su S28 0 10 ((S28 0 10) + 1) → post 1 S44)) ∧
    ((S 1 (z_ix x6)) = v3 →
    post 0 S)
def P_P_put (v1 : Int32) (v2 : Int32) (v3 : Int32) (S : zS) (post : Int32 → zS → Prop) : Prop :=
    P_P_mustBeSample v1 v2 S (fun S3 =>
    ∀ S8 : zS, S8 = z_su S3 0 14 0 → P_P_paint v1 v2 v3 S8 (fun r15 S15 =>
    z_bo r15 ∧ post r15 S15))
def L_P_fill_77 (post : Int32 → zS → Prop) (K106 : Int32 → zS → Prop) (v1 : Int32) (v5 : Int32) (v6 : Int32) (v7 : Int32) (v9 : Int32) : Nat → Int32 → Int32 → zS → Prop
  | 0, _, _, _ => False
  | n + 1, v8, v10, S =>
    (v6 ≤ v10 →
    K106 v8 S) ∧
    (¬ v6 ≤ v10 →
    P_P_paint v10 v9 v5 S (fun r91 S91 =>
    (r91 = 0 →
    ∀ x100 : Int32, x100 = v10 + 1 → L_P_fill_77 post K106 v1 v5 v6 v7 v9 n v8 x100 S91) ∧
    (¬ r91 = 0 →
    ∀ x97 : Int32, x97 = v8 + 1 → ∀ x100 : Int32, x100 = v10 + 1 → L_P_fill_77 post K106 v1 v5 v6 v7 v9 n x97 x100 S91)))
def L_P_fill_67 (post : Int32 → zS → Prop) (v1 : Int32) (v5 : Int32) (v6 : Int32) (v7 : Int32) : Nat → Int32 → Int32 → zS → Prop
  | 0, _, _, _ => False
  | n + 1, v8, v9, S =>
    (v7 ≤ v9 →
    post v8 S) ∧
    (¬ v7 ≤ v9 →
    ∃ k77, L_P_fill_77 post (fun v8_77e S77e =>
    ∀ x106 : Int32, x106 = v9 + 1 → L_P_fill_67 post v1 v5 v6 v7 n v8_77e x106 S77e) v1 v5 v6 v7 v9 k77 v8 v1 S)
def P_P_fill (v1 : Int32) (v2 : Int32) (v3 : Int32) (v4 : Int32) (v5 : Int32) (S : zS) (post : Int32 → zS → Prop) : Prop :=
    P_P_mustBeSample v1 v2 S (fun S3 =>
    (v3 < 1 →
    False) ∧
    (¬ v3 < 1 →
    (1 ≤ v4 →
    ∀ S29 : zS, S29 = z_su S3 0 14 0 → ∀ x44 : Int32, x44 = (v1 + (if ((S29 0 0) - v1) < v3 then ((S29 0 0) - v1) else v3)) → ∀ x59 : Int32, x59 = (v2 + (if ((S29 0 1) - v2) < v4 then ((S29 0 1) - v2) else v4)) → ∃ k67, L_P_fill_67 post v1 v5 x44 x59 k67 0 v2 S29) ∧
    (¬ 1 ≤ v4 →
    False)))
def P_P_noise (v1 : Int32) (S : zS) (post : Int32 → zS → Prop) : Prop :=
    (v1 < 0 →
    False) ∧
    (¬ v1 < 0 →
    (v1 ≤ 100 →
    ∀ x24 : Int32, x24 = (S 0 13) → ∀ S27 : zS, S27 = z_su S 0 13 v1 → ∀ S32 : zS, S32 = z_su S27 0 14 0 → post x24 S32) ∧
    (¬ v1 ≤ 100 →
    False))
def P_G_isOpen (g : Nat) (mk : Nat) (v2 : Int32) (v3 : Int32) (v4 : Int32) (S : zS) (post : Int32 → zS → Prop) : Prop :=
    (v3 < 0 →
    post 0 S) ∧
    (¬ v3 < 0 →
    ((S g 8) ≤ v3 →
    post 0 S) ∧
    (¬ (S g 8) ≤ v3 →
    (v4 < 0 →
    post 0 S) ∧
    (¬ v4 < 0 →
    (v4 < (S g 9) →
    ∀ x35 : Int32, x35 = ((v4 * 24) + v3) → vp_in x35 576 ∧ (¬ (S mk (z_ix x35)) = v2 →
    post 0 S) ∧
    ((S mk (z_ix x35)) = v2 →
    vp_in x35 576 ∧ (¬ (S (g + 1) (z_ix x35)) = (-1) →
    post 0 S) ∧
    ((S (g + 1) (z_ix x35)) = (-1) →
    post 1 S))) ∧
    (¬ v4 < (S g 9) →
    post 0 S))))
def P_G_take (g : Nat) (v1 : Int32) (v2 : Int32) (S : zS) (post : zS → Prop) : Prop :=
    ∀ x6 : Int32, x6 = ((v2 * 24) + v1) → vp_in x6 576 ∧ ∀ S16 : zS, S16 = z_su S (g + 1) (z_ix x6) (S g 6) → vp_in (S16 g 6) 288 ∧ vp_in (S16 (g + 6) (z_ix (S16 g 6))) 576 ∧ ∀ S31 : zS, S31 = z_su S16 (g + 7) (z_ix (S16 (g + 6) (z_ix (S16 g 6)))) x6 → vp_in (S31 g 6) 288 ∧ vp_in (S31 g 6) 288 ∧ ∀ S44 : zS, S44 = z_su S31 (g + 6) (z_ix (S31 g 6)) ((S31 (g + 6) (z_ix (S31 g 6))) + 1) → vp_in (S44 g 6) 288 ∧ vp_in (S44 g 6) 288 ∧ ∀ S66 : zS, S66 = z_su S44 (g + 2) (z_ix (S44 g 6)) (if v1 < (S44 (g + 2) (z_ix (S44 g 6))) then v1 else (S44 (g + 2) (z_ix (S44 g 6)))) → vp_in (S66 g 6) 288 ∧ vp_in (S66 g 6) 288 ∧ ∀ S88 : zS, S88 = z_su S66 (g + 4) (z_ix (S66 g 6)) (if (S66 (g + 4) (z_ix (S66 g 6))) < v1 then v1 else (S66 (g + 4) (z_ix (S66 g 6)))) → vp_in (S88 g 6) 288 ∧ vp_in (S88 g 6) 288 ∧ ∀ S110 : zS, S110 = z_su S88 (g + 5) (z_ix (S88 g 6)) (if (S88 (g + 5) (z_ix (S88 g 6))) < v2 then v2 else (S88 (g + 5) (z_ix (S88 g 6)))) → post S110
def P_G_begin (g : Nat) (v1 : Int32) (v2 : Int32) (S : zS) (post : zS → Prop) : Prop :=
    vp_in (S g 6) 288 ∧ ∀ S9 : zS, S9 = z_su S (g + 2) (z_ix (S g 6)) v1 → vp_in (S9 g 6) 288 ∧ ∀ S19 : zS, S19 = z_su S9 (g + 3) (z_ix (S9 g 6)) v2 → vp_in (S19 g 6) 288 ∧ ∀ S29 : zS, S29 = z_su S19 (g + 4) (z_ix (S19 g 6)) v1 → vp_in (S29 g 6) 288 ∧ ∀ S39 : zS, S39 = z_su S29 (g + 5) (z_ix (S29 g 6)) v2 → vp_in (S39 g 6) 288 ∧ ∀ S49 : zS, S49 = z_su S39 (g + 6) (z_ix (S39 g 6)) 0 → P_G_take g v1 v2 S49 (fun S53 =>
    post S53)
def J_G_gather_109 (g : Nat) (mk : Nat) (post : zS → Prop) (K70 : Int32 → zS → Prop) (v2 : Int32) (v3 : Int32) (v4 : Int32) (v5 : Int32) (v6 : Int32) (v7 : Int32) (v8 : Int32) (S : zS) : Prop :=
    P_G_isOpen g mk v2 v8 v7 S (fun r116 S116 =>
    (r116 = 0 →
    ∀ x130 : Int32, x130 = v8 + 1 → K70 x130 S116) ∧
    (¬ r116 = 0 →
    P_G_take g v8 v7 S116 (fun S127 =>
    ∀ x130 : Int32, x130 = v8 + 1 → K70 x130 S127)))
def J_G_gather_98 (g : Nat) (mk : Nat) (post : zS → Prop) (K70 : Int32 → zS → Prop) (v2 : Int32) (v3 : Int32) (v4 : Int32) (v5 : Int32) (v6 : Int32) (v7 : Int32) (v8 : Int32) (t0 : Int32) (S : zS) : Prop :=
    (¬ t0 = 0 →
    J_G_gather_109 g mk post K70 v2 v3 v4 v5 v6 v7 v8 S) ∧
    (t0 = 0 →
    (v3 = 0 →
    ∀ x130 : Int32, x130 = v8 + 1 → K70 x130 S) ∧
    (¬ v3 = 0 →
    J_G_gather_109 g mk post K70 v2 v3 v4 v5 v6 v7 v8 S))
def J_G_gather_93 (g : Nat) (mk : Nat) (post : zS → Prop) (K70 : Int32 → zS → Prop) (v2 : Int32) (v3 : Int32) (v4 : Int32) (v5 : Int32) (v6 : Int32) (v7 : Int32) (v8 : Int32) (S : zS) : Prop :=
    J_G_gather_98 g mk post K70 v2 v3 v4 v5 v6 v7 v8 1 S
def L_G_gather_70 (g : Nat) (mk : Nat) (post : zS → Prop) (K136 : zS → Prop) (v2 : Int32) (v3 : Int32) (v4 : Int32) (v5 : Int32) (v6 : Int32) (v7 : Int32) : Nat → Int32 → zS → Prop
  | 0, _, _ => False
  | n + 1, v8, S =>
    ((v5 + 1) < v8 →
    K136 S) ∧
    (¬ (v5 + 1) < v8 →
    (v8 = v5 →
    J_G_gather_93 g mk post (L_G_gather_70 g mk post K136 v2 v3 v4 v5 v6 v7 n) v2 v3 v4 v5 v6 v7 v8 S) ∧
    (¬ v8 = v5 →
    (¬ v7 = v6 →
    J_G_gather_98 g mk post (L_G_gather_70 g mk post K136 v2 v3 v4 v5 v6 v7 n) v2 v3 v4 v5 v6 v7 v8 0 S) ∧
    (v7 = v6 →
    J_G_gather_93 g mk post (L_G_gather_70 g mk post K136 v2 v3 v4 v5 v6 v7 n) v2 v3 v4 v5 v6 v7 v8 S)))
def L_G_gather_55 (g : Nat) (mk : Nat) (post : zS → Prop) (K142 : zS → Prop) (v2 : Int32) (v3 : Int32) (v4 : Int32) (v5 : Int32) (v6 : Int32) : Nat → Int32 → zS → Prop
  | 0, _, _ => False
  | n + 1, v7, S =>
    ((v6 + 1) < v7 →
    K142 S) ∧
    (¬ (v6 + 1) < v7 →
    ∀ x68 : Int32, x68 = (v5 - 1) → ∃ k70, L_G_gather_70 g mk post (fun S70e =>
    ∀ x136 : Int32, x136 = v7 + 1 → L_G_gather_55 g mk post K142 v2 v3 v4 v5 v6 n x136 S70e) v2 v3 v4 v5 v6 v7 k70 x68 S)
def L_G_gather_3 (g : Nat) (mk : Nat) (post : zS → Prop) (v2 : Int32) (v3 : Int32) : Nat → Int32 → zS → Prop
  | 0, _, _ => False
  | n + 1, v4, S =>
    (576 ≤ v4 →
    post S) ∧
    (¬ 576 ≤ v4 →
    vp_in (S g 6) 288 ∧ ((S (g + 6) (z_ix (S g 6))) ≤ v4 →
    post S) ∧
    (¬ (S (g + 6) (z_ix (S g 6))) ≤ v4 →
    vp_in v4 576 ∧ ∀ x35 : Int32, x35 = ((S (g + 7) (z_ix v4)) - (S (g + 7) (z_ix v4)) / 24 * 24) → vp_in v4 576 ∧ ∀ x47 : Int32, x47 = ((S (g + 7) (z_ix v4)) / 24) → ∀ x53 : Int32, x53 = (x47 - 1) → ∃ k55, L_G_gather_55 g mk post (fun S55e =>
    ∀ x142 : Int32, x142 = v4 + 1 → L_G_gather_3 g mk post v2 v3 n x142 S55e) v2 v3 v4 x35 x47 k55 x53 S))
def P_G_gather (g : Nat) (mk : Nat) (v2 : Int32) (v3 : Int32) (S : zS) (post : zS → Prop) : Prop :=
    ∃ k3, L_G_gather_3 g mk post v2 v3 k3 0 S
def L_G_find_28 (g : Nat) (mk : Nat) (post : zS → Prop) (K91 : zS → Prop) (v2 : Int32) (v3 : Int32) (v4 : Int32) : Nat → Int32 → zS → Prop
  | 0, _, _ => False
  | n + 1, v5, S =>
    ((S g 8) ≤ v5 →
    K91 S) ∧
    (¬ (S g 8) ≤ v5 →
    P_G_isOpen g mk v2 v5 v4 S (fun r44 S44 =>
    (r44 = 0 →
    ∀ x85 : Int32, x85 = v5 + 1 → L_G_find_28 g mk post K91 v2 v3 v4 n x85 S44) ∧
    (¬ r44 = 0 →
    (288 ≤ (S44 g 6) →
    ∀ x85 : Int32, x85 = v5 + 1 → L_G_find_28 g mk post K91 v2 v3 v4 n x85 S44) ∧
    (¬ 288 ≤ (S44 g 6) →
    P_G_begin g v5 v4 S44 (fun S65 =>
    P_G_gather g mk v2 v3 S65 (fun S72 =>
    ∀ S82 : zS, S82 = z_su S72 g 6 ((S72 g 6) + 1) → ∀ x85 : Int32, x85 = v5 + 1 → L_G_find_28 g mk post K91 v2 v3 v4 n x85 S82))))))
def L_G_find_16 (g : Nat) (mk : Nat) (post : zS → Prop) (v2 : Int32) (v3 : Int32) : Nat → Int32 → zS → Prop
  | 0, _, _ => False
  | n + 1, v4, S =>
    ((S g 9) ≤ v4 →
    post S) ∧
    (¬ (S g 9) ≤ v4 →
    ∃ k28, L_G_find_28 g mk post (fun S28e =>
    ∀ x91 : Int32, x91 = v4 + 1 → L_G_find_16 g mk post v2 v3 n x91 S28e) v2 v3 v4 k28 0 S)
def P_G_find (g : Nat) (mk : Nat) (v2 : Int32) (v3 : Int32) (S : zS) (post : zS → Prop) : Prop :=
    P_A_fill (g + 1) (-1) S (fun S5 =>
    ∀ S10 : zS, S10 = z_su S5 g 6 0 → ∃ k16, L_G_find_16 g mk post v2 v3 k16 0 S10)
def J_P_findClean_68 (post : zS → Prop) (K20 : Int32 → zS → Prop) (v1 : Int32) (t0 : Int32) (t1 : Int32) (S : zS) : Prop :=
    vp_in t1 576 ∧ z_bo t0 ∧ ∀ S68 : zS, S68 = z_su S 2 (z_ix t1) t0 → vp_in v1 576 ∧ vp_in v1 576 ∧ z_bo (S68 2 (z_ix v1)) ∧ ∀ S80 : zS, S80 = z_su S68 3 (z_ix v1) (S68 2 (z_ix v1)) → vp_in v1 576 ∧ ((S80 2 (z_ix v1)) = 0 →
    ∀ x100 : Int32, x100 = v1 + 1 → K20 x100 S80) ∧
    (¬ (S80 2 (z_ix v1)) = 0 →
    ∀ S97 : zS, S97 = z_su S80 0 11 ((S80 0 11) + 1) → ∀ x100 : Int32, x100 = v1 + 1 → K20 x100 S97)
def J_P_findClean_67 (post : zS → Prop) (K20 : Int32 → zS → Prop) (v1 : Int32) (t0 : Int32) (S : zS) : Prop :=
    J_P_findClean_68 post K20 v1 0 t0 S
def L_P_findClean_20 (post : zS → Prop) : Nat → Int32 → zS → Prop
  | 0, _, _ => False
  | n + 1, v1, S =>
    (576 ≤ v1 →
    post S) ∧
    (¬ 576 ≤ v1 →
    vp_in v1 576 ∧ ∀ x36 : Int32, x36 = (S 14 (z_ix v1)) → (x36 = (-1) →
    J_P_findClean_67 post (L_P_findClean_20 post n) v1 v1 S) ∧
    (¬ x36 = (-1) →
    vp_in x36 288 ∧ ((S 19 (z_ix x36)) < (S 0 13) →
    J_P_findClean_67 post (L_P_findClean_20 post n) v1 v1 S) ∧
    (¬ (S 19 (z_ix x36)) < (S 0 13) →
    J_P_findClean_68 post (L_P_findClean_20 post n) v1 1 v1 S)))
def P_P_findClean (S : zS) (post : zS → Prop) : Prop :=
    P_G_find 13 1 1 1 S (fun S10 =>
    ∀ S15 : zS, S15 = z_su S10 0 11 0 → ∃ k20, L_P_findClean_20 post k20 0 S15)
def L_P_smearAlong_53 (post : zS → Prop) (K78 : zS → Prop) (v1 : Int32) (v2 : Int32) (v3 : Int32) (v4 : Int32) (v6 : Int32) : Nat → Int32 → zS → Prop
  | 0, _, _ => False
  | n + 1, v7, S =>
    (v6 ≤ v7 →
    K78 S) ∧
    (¬ v6 ≤ v7 →
    vp_in (v1 + (v7 * v2)) 576 ∧ ∀ S71 : zS, S71 = z_su S 3 (z_ix (v1 + (v7 * v2))) 1 → ∀ x72 : Int32, x72 = v7 + 1 → L_P_smearAlong_53 post K78 v1 v2 v3 v4 v6 n x72 S71)
def L_P_smearAlong_6 (post : zS → Prop) (v1 : Int32) (v2 : Int32) (v3 : Int32) (v4 : Int32) : Nat → Int32 → Int32 → zS → Prop
  | 0, _, _, _ => False
  | n + 1, v5, v6, S =>
    (v3 ≤ v6 →
    post S) ∧
    (¬ v3 ≤ v6 →
    vp_in (v1 + (v6 * v2)) 576 ∧ (¬ (S 2 (z_ix (v1 + (v6 * v2)))) = 0 →
    (v5 = (-1) →
    ∀ x82 : Int32, x82 = v6 + 1 → L_P_smearAlong_6 post v1 v2 v3 v4 n v6 x82 S) ∧
    (¬ v5 = (-1) →
    (v4 < ((v6 - v5) - 1) →
    ∀ x82 : Int32, x82 = v6 + 1 → L_P_smearAlong_6 post v1 v2 v3 v4 n v6 x82 S) ∧
    (¬ v4 < ((v6 - v5) - 1) →
    ∀ x51 : Int32, x51 = (v5 + 1) → ∃ k53, L_P_smearAlong_53 post (fun S53e =>
    ∀ x82 : Int32, x82 = v6 + 1 → L_P_smearAlong_6 post v1 v2 v3 v4 n v6 x82 S53e) v1 v2 v3 v4 v6 k53 x51 S))) ∧
    ((S 2 (z_ix (v1 + (v6 * v2)))) = 0 →
    ∀ x82 : Int32, x82 = v6 + 1 → L_P_smearAlong_6 post v1 v2 v3 v4 n v5 x82 S))
def P_P_smearAlong (v1 : Int32) (v2 : Int32) (v3 : Int32) (v4 : Int32) (S : zS) (post : zS → Prop) : Prop :=
    ∃ k6, L_P_smearAlong_6 post v1 v2 v3 v4 k6 (-1) 0 S
def L_P_smear_2 (post : zS → Prop) (K30 : zS → Prop) (v1 : Int32) (v2 : Int32) : Nat → Int32 → zS → Prop
  | 0, _, _ => False
  | n + 1, v3, S =>
    ((S 0 1) ≤ v3 →
    K30 S) ∧
    (¬ (S 0 1) ≤ v3 →
    P_P_smearAlong (v3 * 24) 1 (S 0 0) v1 S (fun S21 =>
    ∀ x24 : Int32, x24 = v3 + 1 → L_P_smear_2 post K30 v1 v2 n x24 S21))
def L_P_smear_32 (post : zS → Prop) (v2 : Int32) : Nat → Int32 → zS → Prop
  | 0, _, _ => False
  | n + 1, v3, S =>
    ((S 0 0) ≤ v3 →
    post S) ∧
    (¬ (S 0 0) ≤ v3 →
    P_P_smearAlong v3 24 (S 0 1) v2 S (fun S49 =>
    ∀ x52 : Int32, x52 = v3 + 1 → L_P_smear_32 post v2 n x52 S49))
def P_P_smear (v1 : Int32) (v2 : Int32) (S : zS) (post : zS → Prop) : Prop :=
    ∃ k2, L_P_smear_2 post (fun S2e =>
    ∃ k32, L_P_smear_32 post v2 k32 0 S2e) v1 v2 k2 0 S
def J_C_measure_48 (post : zS → Prop) (K20 : Int32 → Int32 → zS → Prop) (v2 : Int32) (v4 : Int32) (v5 : Int32) (t0 : Int32) (S : zS) : Prop :=
    vp_in v5 576 ∧ ∀ S56 : zS, S56 = z_su S 26 (z_ix v5) t0 → ∀ x57 : Int32, x57 = v4 + (-1) → K20 t0 x57 S56
def L_C_measure_20 (post : zS → Prop) (K63 : zS → Prop) (v2 : Int32) : Nat → Int32 → Int32 → zS → Prop
  | 0, _, _, _ => False
  | n + 1, v3, v4, S =>
    (v4 < 0 →
    K63 S) ∧
    (¬ v4 < 0 →
    ∀ x32 : Int32, x32 = ((v2 * 24) + v4) → vp_in x32 576 ∧ ((S 3 (z_ix x32)) = 0 →
    J_C_measure_48 post (L_C_measure_20 post K63 v2 n) v2 v4 x32 (v3 + 1) S) ∧
    (¬ (S 3 (z_ix x32)) = 0 →
    J_C_measure_48 post (L_C_measure_20 post K63 v2 n) v2 v4 x32 0 S))
def L_C_measure_2 (post : zS → Prop) : Nat → Int32 → zS → Prop
  | 0, _, _ => False
  | n + 1, v2, S =>
    ((S 21 7) ≤ v2 →
    post S) ∧
    (¬ (S 21 7) ≤ v2 →
    ∀ x18 : Int32, x18 = ((S 21 6) - 1) → ∃ k20, L_C_measure_20 post (fun S20e =>
    ∀ x63 : Int32, x63 = v2 + 1 → L_C_measure_2 post n x63 S20e) v2 k20 0 x18 S)
def P_C_measure (S : zS) (post : zS → Prop) : Prop :=
    ∃ k2, L_C_measure_2 post k2 0 S
def L_C_growFrom_11 (post : zS → Prop) (v1 : Int32) (v2 : Int32) (v3 : Int32) : Nat → Int32 → Int32 → zS → Prop
  | 0, _, _, _ => False
  | n + 1, v4, v5, S =>
    (((S 21 7) - v3) < v5 →
    post S) ∧
    (¬ ((S 21 7) - v3) < v5 →
    vp_in ((((v3 + v5) - 1) * 24) + v2) 576 ∧ ∀ x43 : Int32, x43 = (if (S 26 (z_ix ((((v3 + v5) - 1) * 24) + v2))) < v4 then (S 26 (z_ix ((((v3 + v5) - 1) * 24) + v2))) else v4) → ((S 21 8) < (x43 * ((S 21 7) - v3)) →
    ((x43 * v5) ≤ (S 21 8) →
    ∀ x113 : Int32, x113 = v5 + 1 → L_C_growFrom_11 post v1 v2 v3 n x43 x113 S) ∧
    (¬ (x43 * v5) ≤ (S 21 8) →
    ∀ S80 : zS, S80 = z_su S 21 8 (x43 * v5) → vp_in v1 6 ∧ ∀ S89 : zS, S89 = z_su S80 22 (z_ix v1) v2 → vp_in v1 6 ∧ ∀ S96 : zS, S96 = z_su S89 23 (z_ix v1) v3 → vp_in v1 6 ∧ ∀ S104 : zS, S104 = z_su S96 24 (z_ix v1) x43 → vp_in v1 6 ∧ ∀ S112 : zS, S112 = z_su S104 25 (z_ix v1) v5 → ∀ x113 : Int32, x113 = v5 + 1 → L_C_growFrom_11 post v1 v2 v3 n x43 x113 S112)) ∧
    (¬ (S 21 8) < (x43 * ((S 21 7) - v3)) →
    post S))
def P_C_growFrom (v1 : Int32) (v2 : Int32) (v3 : Int32) (S : zS) (post : zS → Prop) : Prop :=
    ∀ x6 : Int32, x6 = ((S 21 6) - v2) → ∃ k11, L_C_growFrom_11 post v1 v2 v3 k11 x6 1 S
def L_C_findGreatest_17 (post : zS → Prop) (K38 : zS → Prop) (v1 : Int32) (v2 : Int32) : Nat → Int32 → zS → Prop
  | 0, _, _ => False
  | n + 1, v3, S =>
    ((S 21 6) ≤ v3 →
    K38 S) ∧
    (¬ (S 21 6) ≤ v3 →
    P_C_growFrom v1 v3 v2 S (fun S29 =>
    ∀ x32 : Int32, x32 = v3 + 1 → L_C_findGreatest_17 post K38 v1 v2 n x32 S29))
def L_C_findGreatest_7 (post : zS → Prop) (v1 : Int32) : Nat → Int32 → zS → Prop
  | 0, _, _ => False
  | n + 1, v2, S =>
    ((S 21 7) ≤ v2 →
    post S) ∧
    (¬ (S 21 7) ≤ v2 →
    ∃ k17, L_C_findGreatest_17 post (fun S17e =>
    ∀ x38 : Int32, x38 = v2 + 1 → L_C_findGreatest_7 post v1 n x38 S17e) v1 v2 k17 0 S)
def P_C_findGreatest (v1 : Int32) (S : zS) (post : zS → Prop) : Prop :=
    ∀ S2 : zS, S2 = z_su S 21 8 0 → ∃ k7, L_C_findGreatest_7 post v1 k7 0 S2
def L_C_shortenBefore_4 (post : zS → Prop) (v1 : Int32) (v2 : Int32) : Nat → Int32 → zS → Prop
  | 0, _, _ => False
  | n + 1, v3, S =>
    (v3 < 0 →
    post S) ∧
    (¬ v3 < 0 →
    ∀ x14 : Int32, x14 = ((v2 * 24) + v3) → vp_in x14 576 ∧ vp_in x14 576 ∧ ∀ S35 : zS, S35 = z_su S 26 (z_ix x14) (if (v1 - v3) < (S 26 (z_ix x14)) then (v1 - v3) else (S 26 (z_ix x14))) → ∀ x36 : Int32, x36 = v3 + (-1) → L_C_shortenBefore_4 post v1 v2 n x36 S35)
def P_C_shortenBefore (v1 : Int32) (v2 : Int32) (S : zS) (post : zS → Prop) : Prop :=
    ∀ x3 : Int32, x3 = (v1 - 1) → ∃ k4, L_C_shortenBefore_4 post v1 v2 k4 x3 S
def L_C_block_46 (post : zS → Prop) (K71 : zS → Prop) (v1 : Int32) (v2 : Int32) (v3 : Int32) : Nat → Int32 → zS → Prop
  | 0, _, _ => False
  | n + 1, v4, S =>
    (v2 ≤ v4 →
    K71 S) ∧
    (¬ v2 ≤ v4 →
    vp_in ((v3 * 24) + v4) 576 ∧ ∀ S64 : zS, S64 = z_su S 26 (z_ix ((v3 * 24) + v4)) 0 → ∀ x65 : Int32, x65 = v4 + 1 → L_C_block_46 post K71 v1 v2 v3 n x65 S64)
def L_C_block_21 (post : zS → Prop) (v1 : Int32) (v2 : Int32) : Nat → Int32 → zS → Prop
  | 0, _, _ => False
  | n + 1, v3, S =>
    vp_in v1 6 ∧ vp_in v1 6 ∧ (((S 23 (z_ix v1)) + (S 25 (z_ix v1))) ≤ v3 →
    post S) ∧
    (¬ ((S 23 (z_ix v1)) + (S 25 (z_ix v1))) ≤ v3 →
    vp_in v1 6 ∧ ∀ x44 : Int32, x44 = (S 22 (z_ix v1)) → ∃ k46, L_C_block_46 post (fun S46e =>
    vp_in v1 6 ∧ P_C_shortenBefore (S46e 22 (z_ix v1)) v3 S46e (fun S79 =>
    ∀ x82 : Int32, x82 = v3 + 1 → L_C_block_21 post v1 v2 n x82 S79)) v1 v2 v3 k46 x44 S)
def P_C_block (v1 : Int32) (S : zS) (post : zS → Prop) : Prop :=
    vp_in v1 6 ∧ vp_in v1 6 ∧ ∀ x13 : Int32, x13 = ((S 22 (z_ix v1)) + (S 24 (z_ix v1))) → vp_in v1 6 ∧ ∀ x20 : Int32, x20 = (S 23 (z_ix v1)) → ∃ k21, L_C_block_21 post v1 x13 k21 x20 S
def L_C_find_12 (post : zS → Prop) : Nat → Int32 → zS → Prop
  | 0, _, _ => False
  | n + 1, v2, S =>
    (6 ≤ v2 →
    post S) ∧
    (¬ 6 ≤ v2 →
    P_C_findGreatest v2 S (fun S20 =>
    (4 ≤ (S20 21 8) →
    P_C_block v2 S20 (fun S34 =>
    ∀ S44 : zS, S44 = z_su S34 21 4 ((S34 21 4) + 1) → ∀ x47 : Int32, x47 = v2 + 1 → L_C_find_12 post n x47 S44)) ∧
    (¬ 4 ≤ (S20 21 8) →
    post S20)))
def P_C_find (S : zS) (post : zS → Prop) : Prop :=
    P_C_measure S (fun S2 =>
    ∀ S7 : zS, S7 = z_su S2 21 4 0 → ∃ k12, L_C_find_12 post k12 0 S7)
def L_P_hasInk_2 (post : Int32 → zS → Prop) (v1 : Int32) : Nat → Int32 → zS → Prop
  | 0, _, _ => False
  | n + 1, v2, S =>
    ((S 0 1) ≤ v2 →
    post 0 S) ∧
    (¬ (S 0 1) ≤ v2 →
    vp_in ((v2 * 24) + v1) 576 ∧ ((S 3 (z_ix ((v2 * 24) + v1))) = 0 →
    ∀ x26 : Int32, x26 = v2 + 1 → L_P_hasInk_2 post v1 n x26 S) ∧
    (¬ (S 3 (z_ix ((v2 * 24) + v1))) = 0 →
    post 1 S))
def P_P_hasInk (v1 : Int32) (S : zS) (post : Int32 → zS → Prop) : Prop :=
    ∃ k2, L_P_hasInk_2 post v1 k2 0 S
def J_P_findStrips_60 (post : zS → Prop) (K9 : Int32 → Int32 → zS → Prop) (v2 : Int32) (v3 : Int32) (t0 : Int32) (t1 : Int32) (S : zS) : Prop :=
    vp_in t1 24 ∧ ∀ S60 : zS, S60 = z_su S 4 (z_ix t1) t0 → ∀ x63 : Int32, x63 = v2 + 1 → K9 v3 x63 S60
def J_P_findStrips_41 (post : zS → Prop) (K9 : Int32 → Int32 → zS → Prop) (v2 : Int32) (v3 : Int32) (S : zS) : Prop :=
    (v3 = 0 →
    J_P_findStrips_60 post K9 v2 v3 (-1) v2 S) ∧
    (¬ v3 = 0 →
    J_P_findStrips_60 post K9 v2 v3 ((S 0 12) - 1) v2 S)
def L_P_findStrips_9 (post : zS → Prop) : Nat → Int32 → Int32 → zS → Prop
  | 0, _, _, _ => False
  | n + 1, v1, v2, S =>
    ((S 0 0) ≤ v2 →
    post S) ∧
    (¬ (S 0 0) ≤ v2 →
    P_P_hasInk v2 S (fun r19 S19 =>
    (r19 = 0 →
    J_P_findStrips_41 post (L_P_findStrips_9 post n) v2 r19 S19) ∧
    (¬ r19 = 0 →
    (¬ v1 = 0 →
    J_P_findStrips_41 post (L_P_findStrips_9 post n) v2 r19 S19) ∧
    (v1 = 0 →
    ∀ S38 : zS, S38 = z_su S19 0 12 ((S19 0 12) + 1) → J_P_findStrips_41 post (L_P_findStrips_9 post n) v2 r19 S38))))
def P_P_findStrips (S : zS) (post : zS → Prop) : Prop :=
    ∀ S2 : zS, S2 = z_su S 0 12 0 → ∃ k9, L_P_findStrips_9 post k9 0 0 S2
def L_G_dropAtEdge_4 (g : Nat) (post : zS → Prop) (K129 : Int32 → zS → Prop) : Nat → Int32 → Int32 → zS → Prop
  | 0, _, _, _ => False
  | n + 1, v1, v2, S =>
    ((S g 6) ≤ v2 →
    K129 v1 S) ∧
    (¬ (S g 6) ≤ v2 →
    vp_in v2 288 ∧ ((S (g + 2) (z_ix v2)) ≤ 0 →
    ∀ x123 : Int32, x123 = v2 + 1 → L_G_dropAtEdge_4 g post K129 n v1 x123 S) ∧
    (¬ (S (g + 2) (z_ix v2)) ≤ 0 →
    vp_in v2 288 ∧ ((S (g + 3) (z_ix v2)) ≤ 0 →
    ∀ x123 : Int32, x123 = v2 + 1 → L_G_dropAtEdge_4 g post K129 n v1 x123 S) ∧
    (¬ (S (g + 3) (z_ix v2)) ≤ 0 →
    vp_in v2 288 ∧ (((S g 8) - 1) ≤ (S (g + 4) (z_ix v2)) →
    ∀ x123 : Int32, x123 = v2 + 1 → L_G_dropAtEdge_4 g post K129 n v1 x123 S) ∧
    (¬ ((S g 8) - 1) ≤ (S (g + 4) (z_ix v2)) →
    vp_in v2 288 ∧ (((S g 9) - 1) ≤ (S (g + 5) (z_ix v2)) →
    ∀ x123 : Int32, x123 = v2 + 1 → L_G_dropAtEdge_4 g post K129 n v1 x123 S) ∧
    (¬ ((S g 9) - 1) ≤ (S (g + 5) (z_ix v2)) →
    vp_in v2 288 ∧ vp_in v1 288 ∧ ∀ S71 : zS, S71 = z_su S (g + 2) (z_ix v1) (S (g + 2) (z_ix v2)) → vp_in v2 288 ∧ vp_in v1 288 ∧ ∀ S83 : zS, S83 = z_su S71 (g + 3) (z_ix v1) (S71 (g + 3) (z_ix v2)) → vp_in v2 288 ∧ vp_in v1 288 ∧ ∀ S95 : zS, S95 = z_su S83 (g + 4) (z_ix v1) (S83 (g + 4) (z_ix v2)) → vp_in v2 288 ∧ vp_in v1 288 ∧ ∀ S107 : zS, S107 = z_su S95 (g + 5) (z_ix v1) (S95 (g + 5) (z_ix v2)) → vp_in v2 288 ∧ vp_in v1 288 ∧ ∀ S119 : zS, S119 = z_su S107 (g + 6) (z_ix v1) (S107 (g + 6) (z_ix v2)) → ∀ x120 : Int32, x120 = v1 + 1 → ∀ x123 : Int32, x123 = v2 + 1 → L_G_dropAtEdge_4 g post K129 n x120 x123 S119)))))
def P_G_dropAtEdge (g : Nat) (S : zS) (post : zS → Prop) : Prop :=
    ∃ k4, L_G_dropAtEdge_4 g post (fun v1_4e S4e =>
    ∀ S131 : zS, S131 = z_su S4e g 6 v1_4e → post S131) k4 0 0 S
def P_R_isBefore (v1 : Int32) (v2 : Int32) (S : zS) (post : Int32 → zS → Prop) : Prop :=
    vp_in v1 288 ∧ vp_in v2 288 ∧ ((S 8 (z_ix v1)) = (S 8 (z_ix v2)) →
    vp_in v1 288 ∧ vp_in v2 288 ∧ ((S 7 (z_ix v1)) = (S 7 (z_ix v2)) →
    (v2 ≤ v1 →
    post 0 S) ∧
    (¬ v2 ≤ v1 →
    post 1 S)) ∧
    (¬ (S 7 (z_ix v1)) = (S 7 (z_ix v2)) →
    vp_in v1 288 ∧ vp_in v2 288 ∧ ((S 7 (z_ix v2)) ≤ (S 7 (z_ix v1)) →
    post 0 S) ∧
    (¬ (S 7 (z_ix v2)) ≤ (S 7 (z_ix v1)) →
    post 1 S))) ∧
    (¬ (S 8 (z_ix v1)) = (S 8 (z_ix v2)) →
    vp_in v1 288 ∧ vp_in v2 288 ∧ ((S 8 (z_ix v2)) ≤ (S 8 (z_ix v1)) →
    post 0 S) ∧
    (¬ (S 8 (z_ix v2)) ≤ (S 8 (z_ix v1)) →
    post 1 S))
def L_R_sortByBoxes_12 (post : zS → Prop) (K52 : Int32 → zS → Prop) (v2 : Int32) : Nat → Int32 → zS → Prop
  | 0, _, _ => False
  | n + 1, v3, S =>
    (v3 ≤ 0 →
    K52 v3 S) ∧
    (¬ v3 ≤ 0 →
    vp_in (v3 - 1) 288 ∧ P_R_isBefore v2 (S 28 (z_ix (v3 - 1))) S (fun r26 S26 =>
    (r26 = 0 →
    K52 v3 S26) ∧
    (¬ r26 = 0 →
    vp_in (v3 - 1) 288 ∧ vp_in v3 288 ∧ ∀ S45 : zS, S45 = z_su S26 28 (z_ix v3) (S26 28 (z_ix (v3 - 1))) → ∀ x46 : Int32, x46 = v3 + (-1) → L_R_sortByBoxes_12 post K52 v2 n x46 S45)))
def J_R_sortByBoxes_52 (post : zS → Prop) (K2 : Int32 → zS → Prop) (v2 : Int32) (v3 : Int32) (S : zS) : Prop :=
    vp_in v3 288 ∧ ∀ S58 : zS, S58 = z_su S 28 (z_ix v3) v2 → ∀ x59 : Int32, x59 = v2 + 1 → K2 x59 S58
def L_R_sortByBoxes_2 (post : zS → Prop) : Nat → Int32 → zS → Prop
  | 0, _, _ => False
  | n + 1, v2, S =>
    ((S 5 6) ≤ v2 →
    post S) ∧
    (¬ (S 5 6) ≤ v2 →
    ∃ k12, L_R_sortByBoxes_12 post (fun v3_12e S12e =>
    J_R_sortByBoxes_52 post (L_R_sortByBoxes_2 post n) v2 v3_12e S12e) v2 k12 v2 S)
def P_R_sortByBoxes (S : zS) (post : zS → Prop) : Prop :=
    ∃ k2, L_R_sortByBoxes_2 post k2 0 S
def P_R_bits (v0 : Int32) (v1 : Int32) (S : zS) (post : Int32 → zS → Prop) : Prop :=
    post ((1 <<< ((v1 + 1) &&& 31)) - (1 <<< (v0 &&& 31))) S
def P_R_hasBit (v0 : Int32) (v1 : Int32) (S : zS) (post : Int32 → zS → Prop) : Prop :=
    (((v0 >>> (v1 &&& 31)) &&& 1) = 0 →
    post 0 S) ∧
    (¬ ((v0 >>> (v1 &&& 31)) &&& 1) = 0 →
    post 1 S)
def L_R_lookAlong_9 (fa : Nat) (la : Nat) (post : zS → Prop) (K65 : Int32 → Int32 → zS → Prop) (v4 : Int32) (v5 : Int32) : Nat → Int32 → Int32 → Int32 → zS → Prop
  | 0, _, _, _, _ => False
  | n + 1, v6, v7, v8, S =>
    (v4 ≤ v8 →
    K65 v6 v7 S) ∧
    (¬ v4 ≤ v8 →
    vp_in v8 288 ∧ ∀ x23 : Int32, x23 = (S 28 (z_ix v8)) → vp_in x23 288 ∧ vp_in x23 288 ∧ P_R_bits (S fa (z_ix x23)) (S la (z_ix x23)) S (fun r35 S35 =>
    ∀ x39 : Int32, x39 = (v6 ||| r35) → vp_in x23 288 ∧ vp_in x23 288 ∧ P_R_bits ((S35 fa (z_ix x23)) + 1) (S35 la (z_ix x23)) S35 (fun r53 S53 =>
    ∀ x57 : Int32, x57 = (v7 ||| r53) → ∀ x59 : Int32, x59 = v8 + 1 → L_R_lookAlong_9 fa la post K65 v4 v5 n x39 x57 x59 S53)))
def J_R_lookAlong_140 (fa : Nat) (la : Nat) (post : zS → Prop) (K71 : Int32 → Int32 → zS → Prop) (v5 : Int32) (v6 : Int32) (v7 : Int32) (v9 : Int32) (S : zS) : Prop :=
    ∀ x144 : Int32, x144 = (v9 + 1) → ∀ x146 : Int32, x146 = v9 + 1 → K71 x144 x146 S
def L_R_lookAlong_71 (fa : Nat) (la : Nat) (post : zS → Prop) (v5 : Int32) (v6 : Int32) (v7 : Int32) : Nat → Int32 → Int32 → zS → Prop
  | 0, _, _, _ => False
  | n + 1, v8, v9, S =>
    (24 ≤ v9 →
    post S) ∧
    (¬ 24 ≤ v9 →
    P_R_hasBit v6 v9 S (fun r82 S82 =>
    (¬ r82 = 0 →
    (v8 = (-1) →
    J_R_lookAlong_140 fa la post (L_R_lookAlong_71 fa la post v5 v6 v7 n) v5 v6 v7 v9 S82) ∧
    (¬ v8 = (-1) →
    P_R_hasBit v7 v9 S82 (fun r101 S101 =>
    (¬ r101 = 0 →
    J_R_lookAlong_140 fa la post (L_R_lookAlong_71 fa la post v5 v6 v7 n) v5 v6 v7 v9 S101) ∧
    (r101 = 0 →
    ((v9 - v8) ≤ (S101 27 4) →
    J_R_lookAlong_140 fa la post (L_R_lookAlong_71 fa la post v5 v6 v7 n) v5 v6 v7 v9 S101) ∧
    (¬ (v9 - v8) ≤ (S101 27 4) →
    ∀ S125 : zS, S125 = z_su S101 27 4 (v9 - v8) → ∀ S131 : zS, S131 = z_su S125 27 3 v9 → z_bo v5 ∧ ∀ S137 : zS, S137 = z_su S131 27 5 v5 → J_R_lookAlong_140 fa la post (L_R_lookAlong_71 fa la post v5 v6 v7 n) v5 v6 v7 v9 S137))))) ∧
    (r82 = 0 →
    ∀ x146 : Int32, x146 = v9 + 1 → L_R_lookAlong_71 fa la post v5 v6 v7 n v8 x146 S82)))
def P_R_lookAlong (fa : Nat) (la : Nat) (v3 : Int32) (v4 : Int32) (v5 : Int32) (S : zS) (post : zS → Prop) : Prop :=
    ∃ k9, L_R_lookAlong_9 fa la post (fun v6_9e v7_9e S9e =>
    ∃ k71, L_R_lookAlong_71 fa la post v5 v6_9e v7_9e k71 (-1) 0 S9e) v4 v5 k9 0 0 v3 S
def P_R_findCut (v2 : Int32) (v3 : Int32) (S : zS) (post : Int32 → zS → Prop) : Prop :=
    ∀ S2 : zS, S2 = z_su S 27 4 (-1) → P_R_lookAlong 7 9 v2 v3 0 S2 (fun S17 =>
    P_R_lookAlong 8 10 v2 v3 1 S17 (fun S32 =>
    ((S32 27 4) = (-1) →
    post 0 S32) ∧
    (¬ (S32 27 4) = (-1) →
    post 1 S32)))
def L_R_divide_29 (la : Nat) (post : Int32 → zS → Prop) (K89 : Int32 → Int32 → zS → Prop) (v3 : Int32) : Nat → Int32 → Int32 → Int32 → zS → Prop
  | 0, _, _, _, _ => False
  | n + 1, v5, v6, v7, S =>
    (v3 ≤ v7 →
    K89 v5 v6 S) ∧
    (¬ v3 ≤ v7 →
    vp_in v7 288 ∧ ∀ x42 : Int32, x42 = (S 28 (z_ix v7)) → vp_in x42 288 ∧ ((S 27 3) ≤ (S la (z_ix x42)) →
    vp_in v6 288 ∧ ∀ S79 : zS, S79 = z_su S 29 (z_ix v6) x42 → ∀ x80 : Int32, x80 = v6 + 1 → ∀ x83 : Int32, x83 = v7 + 1 → L_R_divide_29 la post K89 v3 n v5 x80 x83 S79) ∧
    (¬ (S 27 3) ≤ (S la (z_ix x42)) →
    vp_in v5 288 ∧ ∀ S64 : zS, S64 = z_su S 28 (z_ix v5) x42 → ∀ x65 : Int32, x65 = v5 + 1 → ∀ x83 : Int32, x83 = v7 + 1 → L_R_divide_29 la post K89 v3 n x65 v6 x83 S64))
def J_R_divide_18 (la : Nat) (post : Int32 → zS → Prop) (v2 : Int32) (v3 : Int32) (S : zS) : Prop :=
    ∃ k29, L_R_divide_29 la post (fun v5_29e v6_29e S29e =>
    z_cp 0 v5_29e v6_29e 288 288 ∧ ∀ S102 : zS, S102 = z_sc S29e 29 28 (z_ix 0) (z_ix v5_29e) (z_ix v6_29e) → post v5_29e S102) v3 k29 v2 0 v2 S
def P_R_divide (v2 : Int32) (v3 : Int32) (S : zS) (post : Int32 → zS → Prop) : Prop :=
    ((S 27 5) = 0 →
    J_R_divide_18 9 post v2 v3 S) ∧
    (¬ (S 27 5) = 0 →
    J_R_divide_18 10 post v2 v3 S)
def J_R_arrange_82 (post : zS → Prop) (K22 : Int32 → Int32 → Int32 → zS → Prop) (v3 : Int32) (v4 : Int32) (v5 : Int32) (S : zS) : Prop :=
    ∀ x85 : Int32, x85 = v3 + (-1) → ∀ x88 : Int32, x88 = v4 + 1 → K22 v5 x85 x88 S
def L_R_arrange_22 (post : zS → Prop) : Nat → Int32 → Int32 → Int32 → zS → Prop
  | 0, _, _, _, _ => False
  | n + 1, v2, v3, v4, S =>
    (576 ≤ v4 →
    post S) ∧
    (¬ 576 ≤ v4 →
    (v3 < 0 →
    post S) ∧
    (¬ v3 < 0 →
    vp_in v3 288 ∧ ∀ x40 : Int32, x40 = (S 30 (z_ix v3)) → P_R_findCut v2 x40 S (fun r47 S47 =>
    (r47 = 0 →
    J_R_arrange_82 post (L_R_arrange_22 post n) v3 v4 x40 S47) ∧
    (¬ r47 = 0 →
    (288 ≤ (v3 + 1) →
    J_R_arrange_82 post (L_R_arrange_22 post n) v3 v4 x40 S47) ∧
    (¬ 288 ≤ (v3 + 1) →
    ∀ x62 : Int32, x62 = v3 + 1 → P_R_divide v2 x40 S47 (fun r75 S75 =>
    vp_in x62 288 ∧ ∀ S78 : zS, S78 = z_su S75 30 (z_ix x62) r75 → ∀ x88 : Int32, x88 = v4 + 1 → L_R_arrange_22 post n v2 x62 x88 S78))))))
def P_R_arrange (S : zS) (post : zS → Prop) : Prop :=
    P_R_sortByBoxes S (fun S2 =>
    vp_in 0 288 ∧ ∀ S18 : zS, S18 = z_su S2 30 (z_ix 0) (S2 5 6) → ∃ k22, L_R_arrange_22 post k22 0 0 0 S18)
def P_P_run (v1 : Int32) (v2 : Int32) (S : zS) (post : Int32 → zS → Prop) : Prop :=
    (v1 < 0 →
    False) ∧
    (¬ v1 < 0 →
    (24 < v1 →
    False) ∧
    (¬ 24 < v1 →
    (v2 < 0 →
    False) ∧
    (¬ v2 < 0 →
    (v2 ≤ 24 →
    P_P_findClean S (fun S31 =>
    P_P_smear v1 v2 S31 (fun S37 =>
    P_G_find 5 3 1 0 S37 (fun S50 =>
    P_C_find S50 (fun S61 =>
    P_P_findStrips S61 (fun S65 =>
    P_G_find 13 2 0 0 S65 (fun S78 =>
    P_G_dropAtEdge 13 S78 (fun S85 =>
    P_R_arrange S85 (fun S96 =>
    ∀ S101 : zS, S101 = z_su S96 0 14 1 → post (S101 5 6) S101))))))))) ∧
    (¬ v2 ≤ 24 →
    False))))
def P_P_mustBeParted (S : zS) (post : zS → Prop) : Prop :=
    (¬ (S 0 14) = 0 →
    post S) ∧
    ((S 0 14) = 0 →
    False)
def P_P_mustBeBelow (v0 : Int32) (v1 : Int32) (S : zS) (post : zS → Prop) : Prop :=
    (v0 < 0 →
    False) ∧
    (¬ v0 < 0 →
    (v0 < v1 →
    post S) ∧
    (¬ v0 < v1 →
    False))
def P_P_mustBeTold (v0 : Int32) (v1 : Int32) (S : zS) (post : zS → Prop) : Prop :=
    (v0 < 0 →
    False) ∧
    (¬ v0 < 0 →
    (v0 < v1 →
    post S) ∧
    (¬ v0 < v1 →
    False))
def L_P_weightOf_4 (post : Int32 → zS → Prop) (v1 : Int32) : Nat → Int32 → Int32 → zS → Prop
  | 0, _, _, _ => False
  | n + 1, v2, v3, S =>
    (576 ≤ v3 →
    post v2 S) ∧
    (¬ 576 ≤ v3 →
    vp_in v3 576 ∧ ((S 2 (z_ix v3)) = 0 →
    ∀ x36 : Int32, x36 = v3 + 1 → L_P_weightOf_4 post v1 n v2 x36 S) ∧
    (¬ (S 2 (z_ix v3)) = 0 →
    vp_in v3 576 ∧ (¬ (S 6 (z_ix v3)) = v1 →
    ∀ x36 : Int32, x36 = v3 + 1 → L_P_weightOf_4 post v1 n v2 x36 S) ∧
    ((S 6 (z_ix v3)) = v1 →
    ∀ x33 : Int32, x33 = v2 + 1 → ∀ x36 : Int32, x36 = v3 + 1 → L_P_weightOf_4 post v1 n x33 x36 S)))
def P_P_weightOf (v1 : Int32) (S : zS) (post : Int32 → zS → Prop) : Prop :=
    ∃ k4, L_P_weightOf_4 post v1 k4 0 0 S
def P_G_wideOf (g : Nat) (v1 : Int32) (S : zS) (post : Int32 → zS → Prop) : Prop :=
    vp_in v1 288 ∧ vp_in v1 288 ∧ post (((S (g + 4) (z_ix v1)) - (S (g + 2) (z_ix v1))) + 1) S
def P_G_highOf (g : Nat) (v1 : Int32) (S : zS) (post : Int32 → zS → Prop) : Prop :=
    vp_in v1 288 ∧ vp_in v1 288 ∧ post (((S (g + 5) (z_ix v1)) - (S (g + 3) (z_ix v1))) + 1) S
def P_P_isThin (v0 : Int32) (v1 : Int32) (S : zS) (post : Int32 → zS → Prop) : Prop :=
    (2 < v1 →
    post 0 S) ∧
    (¬ 2 < v1 →
    (v0 < (5 * v1) →
    post 0 S) ∧
    (¬ v0 < (5 * v1) →
    post 1 S))
def L_P_countClean_18 (post : Int32 → zS → Prop) (K51 : Int32 → zS → Prop) (v1 : Int32) (v2 : Int32) (v3 : Int32) (v4 : Int32) (v6 : Int32) : Nat → Int32 → Int32 → zS → Prop
  | 0, _, _, _ => False
  | n + 1, v5, v7, S =>
    ((v1 + v3) ≤ v7 →
    K51 v5 S) ∧
    (¬ (v1 + v3) ≤ v7 →
    vp_in ((v6 * 24) + v7) 576 ∧ ((S 2 (z_ix ((v6 * 24) + v7))) = 0 →
    ∀ x45 : Int32, x45 = v7 + 1 → L_P_countClean_18 post K51 v1 v2 v3 v4 v6 n v5 x45 S) ∧
    (¬ (S 2 (z_ix ((v6 * 24) + v7))) = 0 →
    ∀ x42 : Int32, x42 = v5 + 1 → ∀ x45 : Int32, x45 = v7 + 1 → L_P_countClean_18 post K51 v1 v2 v3 v4 v6 n x42 x45 S))
def L_P_countClean_6 (post : Int32 → zS → Prop) (v1 : Int32) (v2 : Int32) (v3 : Int32) (v4 : Int32) : Nat → Int32 → Int32 → zS → Prop
  | 0, _, _, _ => False
  | n + 1, v5, v6, S =>
    ((v2 + v4) ≤ v6 →
    post v5 S) ∧
    (¬ (v2 + v4) ≤ v6 →
    ∃ k18, L_P_countClean_18 post (fun v5_18e S18e =>
    ∀ x51 : Int32, x51 = v6 + 1 → L_P_countClean_6 post v1 v2 v3 v4 n v5_18e x51 S18e) v1 v2 v3 v4 v6 k18 v5 v1 S)
def P_P_countClean (v1 : Int32) (v2 : Int32) (v3 : Int32) (v4 : Int32) (S : zS) (post : Int32 → zS → Prop) : Prop :=
    ∃ k6, L_P_countClean_6 post v1 v2 v3 v4 k6 0 v2 S
def P_P_isFramed (v1 : Int32) (S : zS) (post : Int32 → zS → Prop) : Prop :=
    vp_in v1 288 ∧ ∀ x9 : Int32, x9 = (S 7 (z_ix v1)) → vp_in v1 288 ∧ ∀ x19 : Int32, x19 = (S 8 (z_ix v1)) → P_G_wideOf 5 v1 S (fun r25 S25 =>
    P_G_highOf 5 v1 S25 (fun r35 S35 =>
    P_P_countClean x9 x19 r25 1 S35 (fun r47 S47 =>
    ((4 * r47) < (3 * r25) →
    post 0 S47) ∧
    (¬ (4 * r47) < (3 * r25) →
    vp_in v1 288 ∧ P_P_countClean x9 (S47 10 (z_ix v1)) r25 1 S47 (fun r73 S73 =>
    ((4 * r73) < (3 * r25) →
    post 0 S73) ∧
    (¬ (4 * r73) < (3 * r25) →
    P_P_countClean x9 x19 1 r35 S73 (fun r91 S91 =>
    ((4 * r91) < (3 * r35) →
    post 0 S91) ∧
    (¬ (4 * r91) < (3 * r35) →
    vp_in v1 288 ∧ P_P_countClean (S91 9 (z_ix v1)) x19 1 r35 S91 (fun r117 S117 =>
    ((4 * r117) < (3 * r35) →
    post 0 S117) ∧
    (¬ (4 * r117) < (3 * r35) →
    post 1 S117))))))))))
def P_P_isMostlyEmptyWithin (v1 : Int32) (S : zS) (post : Int32 → zS → Prop) : Prop :=
    P_G_wideOf 5 v1 S (fun r5 S5 =>
    ∀ x10 : Int32, x10 = (r5 - 2) → P_G_highOf 5 v1 S5 (fun r16 S16 =>
    ∀ x21 : Int32, x21 = (r16 - 2) → vp_in v1 288 ∧ vp_in v1 288 ∧ P_P_countClean ((S16 7 (z_ix v1)) + 1) ((S16 8 (z_ix v1)) + 1) x10 x21 S16 (fun r48 S48 =>
    ((x10 * x21) < (4 * r48) →
    post 0 S48) ∧
    (¬ (x10 * x21) < (4 * r48) →
    post 1 S48))))
def J_P_kindOf_68 (post : Int32 → zS → Prop) (v1 : Int32) (v2 : Int32) (v3 : Int32) (S : zS) : Prop :=
    vp_in v1 288 ∧ vp_in v1 288 ∧ P_P_countClean (S 7 (z_ix v1)) (S 8 (z_ix v1)) v2 v3 S (fun r89 S89 =>
    ((2 * r89) < (v2 * v3) →
    post 0 S89) ∧
    (¬ (2 * r89) < (v2 * v3) →
    post 2 S89))
def P_P_kindOf (v1 : Int32) (S : zS) (post : Int32 → zS → Prop) : Prop :=
    P_G_wideOf 5 v1 S (fun r5 S5 =>
    P_G_highOf 5 v1 S5 (fun r14 S14 =>
    P_P_isThin r5 r14 S14 (fun r20 S20 =>
    (¬ r20 = 0 →
    post 1 S20) ∧
    (r20 = 0 →
    P_P_isThin r14 r5 S20 (fun r28 S28 =>
    (r28 = 0 →
    (r5 < 7 →
    post 0 S28) ∧
    (¬ r5 < 7 →
    (7 ≤ r14 →
    P_P_isFramed v1 S28 (fun r52 S52 =>
    (r52 = 0 →
    J_P_kindOf_68 post v1 r5 r14 S52) ∧
    (¬ r52 = 0 →
    P_P_isMostlyEmptyWithin v1 S52 (fun r60 S60 =>
    (r60 = 0 →
    J_P_kindOf_68 post v1 r5 r14 S60) ∧
    (¬ r60 = 0 →
    post 3 S60))))) ∧
    (¬ 7 ≤ r14 →
    post 0 S28))) ∧
    (¬ r28 = 0 →
    post 1 S28))))))
def L_P_hasCleanOf_24 (post : Int32 → zS → Prop) (v1 : Int32) (v2 : Int32) : Nat → Int32 → zS → Prop
  | 0, _, _ => False
  | n + 1, v3, S =>
    vp_in v1 288 ∧ ((S 9 (z_ix v1)) < v3 →
    post 0 S) ∧
    (¬ (S 9 (z_ix v1)) < v3 →
    ∀ x43 : Int32, x43 = ((v2 * 24) + v3) → vp_in x43 576 ∧ ((S 2 (z_ix x43)) = 0 →
    ∀ x71 : Int32, x71 = v3 + 1 → L_P_hasCleanOf_24 post v1 v2 n x71 S) ∧
    (¬ (S 2 (z_ix x43)) = 0 →
    vp_in x43 576 ∧ (¬ (S 6 (z_ix x43)) = v1 →
    ∀ x71 : Int32, x71 = v3 + 1 → L_P_hasCleanOf_24 post v1 v2 n x71 S) ∧
    ((S 6 (z_ix x43)) = v1 →
    post 1 S)))
def P_P_hasCleanOf (v1 : Int32) (v2 : Int32) (S : zS) (post : Int32 → zS → Prop) : Prop :=
    (v2 < 0 →
    post 0 S) ∧
    (¬ v2 < 0 →
    (v2 < (S 0 1) →
    vp_in v1 288 ∧ ∀ x23 : Int32, x23 = (S 7 (z_ix v1)) → ∃ k24, L_P_hasCleanOf_24 post v1 v2 k24 x23 S) ∧
    (¬ v2 < (S 0 1) →
    post 0 S))
def P_P_beginsLine (v1 : Int32) (v2 : Int32) (S : zS) (post : Int32 → zS → Prop) : Prop :=
    P_P_hasCleanOf v1 v2 S (fun r3 S3 =>
    (r3 = 0 →
    post 0 S3) ∧
    (¬ r3 = 0 →
    P_P_hasCleanOf v1 (v2 - 1) S3 (fun r14 S14 =>
    (¬ r14 = 0 →
    post 0 S14) ∧
    (r14 = 0 →
    post 1 S14))))
def L_P_countLines_12 (post : Int32 → zS → Prop) (v1 : Int32) : Nat → Int32 → Int32 → zS → Prop
  | 0, _, _, _ => False
  | n + 1, v2, v3, S =>
    vp_in v1 288 ∧ ((S 10 (z_ix v1)) < v3 →
    post v2 S) ∧
    (¬ (S 10 (z_ix v1)) < v3 →
    P_P_beginsLine v1 v3 S (fun r28 S28 =>
    (r28 = 0 →
    ∀ x37 : Int32, x37 = v3 + 1 → L_P_countLines_12 post v1 n v2 x37 S28) ∧
    (¬ r28 = 0 →
    ∀ x34 : Int32, x34 = v2 + 1 → ∀ x37 : Int32, x37 = v3 + 1 → L_P_countLines_12 post v1 n x34 x37 S28)))
def P_P_countLines (v1 : Int32) (S : zS) (post : Int32 → zS → Prop) : Prop :=
    vp_in v1 288 ∧ ∀ x11 : Int32, x11 = (S 8 (z_ix v1)) → ∃ k12, L_P_countLines_12 post v1 k12 0 x11 S
def P_G_boxOf (g : Nat) (v1 : Int32) (v2 : Int32) (S : zS) (post : Int32 → zS → Prop) : Prop :=
    (v2 = 0 →
    vp_in v1 288 ∧ post (S (g + 2) (z_ix v1)) S) ∧
    (v2 = 1 →
    vp_in v1 288 ∧ post (S (g + 3) (z_ix v1)) S) ∧
    (v2 = 2 →
    P_G_wideOf g v1 S (fun r44 S44 =>
    post r44 S44)) ∧
    (¬ v2 = 0 → ¬ v2 = 1 → ¬ v2 = 2 → 
    P_G_highOf g v1 S (fun r50 S50 =>
    post r50 S50))
def P_P_part (v1 : Int32) (v2 : Int32) (S : zS) (post : Int32 → zS → Prop) : Prop :=
    P_P_mustBeParted S (fun S1 =>
    P_P_mustBeBelow v1 (S1 5 6) S1 (fun S12 =>
    P_P_mustBeTold v2 8 S12 (fun S18 =>
    (v2 = 4 →
    P_P_weightOf v1 S18 (fun r54 S54 =>
    post r54 S54)) ∧
    (v2 = 5 →
    P_P_kindOf v1 S18 (fun r60 S60 =>
    post r60 S60)) ∧
    (v2 = 6 →
    P_P_countLines v1 S18 (fun r66 S66 =>
    post r66 S66)) ∧
    (v2 = 7 →
    vp_in v1 288 ∧ post (S18 11 (z_ix v1)) S18) ∧
    (¬ v2 = 4 → ¬ v2 = 5 → ¬ v2 = 6 → ¬ v2 = 7 → 
    P_G_boxOf 5 v1 v2 S18 (fun r86 S86 =>
    post r86 S86)))))
def P_P_partOf (v1 : Int32) (v2 : Int32) (S : zS) (post : Int32 → zS → Prop) : Prop :=
    P_P_mustBeParted S (fun S1 =>
    P_P_mustBeSample v1 v2 S1 (fun S7 =>
    vp_in ((v2 * 24) + v1) 576 ∧ post (S7 6 (z_ix ((v2 * 24) + v1))) S7))
def L_P_firstRowOfLine_13 (post : Int32 → zS → Prop) (v1 : Int32) (v2 : Int32) : Nat → Int32 → Int32 → zS → Prop
  | 0, _, _, _ => False
  | n + 1, v3, v4, S =>
    vp_in v1 288 ∧ ((S 10 (z_ix v1)) < v4 →
    post (-1) S) ∧
    (¬ (S 10 (z_ix v1)) < v4 →
    P_P_beginsLine v1 v4 S (fun r31 S31 =>
    (r31 = 0 →
    ∀ x48 : Int32, x48 = v4 + 1 → L_P_firstRowOfLine_13 post v1 v2 n v3 x48 S31) ∧
    (¬ r31 = 0 →
    (¬ v3 = v2 →
    ∀ x45 : Int32, x45 = v3 + 1 → ∀ x48 : Int32, x48 = v4 + 1 → L_P_firstRowOfLine_13 post v1 v2 n x45 x48 S31) ∧
    (v3 = v2 →
    post v4 S31))))
def P_P_firstRowOfLine (v1 : Int32) (v2 : Int32) (S : zS) (post : Int32 → zS → Prop) : Prop :=
    vp_in v1 288 ∧ ∀ x11 : Int32, x11 = (S 8 (z_ix v1)) → ∃ k13, L_P_firstRowOfLine_13 post v1 v2 k13 0 x11 S
def L_P_countRowsOfLine_2 (post : Int32 → zS → Prop) (K30 : Int32 → zS → Prop) (v1 : Int32) (v2 : Int32) : Nat → Int32 → zS → Prop
  | 0, _, _ => False
  | n + 1, v3, S =>
    vp_in v1 288 ∧ ((S 10 (z_ix v1)) < v3 →
    K30 v3 S) ∧
    (¬ (S 10 (z_ix v1)) < v3 →
    P_P_hasCleanOf v1 v3 S (fun r18 S18 =>
    (r18 = 0 →
    K30 v3 S18) ∧
    (¬ r18 = 0 →
    ∀ x24 : Int32, x24 = v3 + 1 → L_P_countRowsOfLine_2 post K30 v1 v2 n x24 S18)))
def P_P_countRowsOfLine (v1 : Int32) (v2 : Int32) (S : zS) (post : Int32 → zS → Prop) : Prop :=
    ∃ k2, L_P_countRowsOfLine_2 post (fun v3_2e S2e =>
    post (v3_2e - v2) S2e) v1 v2 k2 v2 S
def P_P_line (v1 : Int32) (v2 : Int32) (v3 : Int32) (S : zS) (post : Int32 → zS → Prop) : Prop :=
    P_P_mustBeParted S (fun S1 =>
    P_P_mustBeBelow v1 (S1 5 6) S1 (fun S12 =>
    P_P_countLines v1 S12 (fun r18 S18 =>
    P_P_mustBeBelow v2 r18 S18 (fun S21 =>
    P_P_mustBeTold v3 2 S21 (fun S26 =>
    P_P_firstRowOfLine v1 v2 S26 (fun r32 S32 =>
    (¬ v3 = 0 →
    P_P_countRowsOfLine v1 r32 S32 (fun r50 S50 =>
    post r50 S50)) ∧
    (v3 = 0 →
    post r32 S32)))))))
def P_P_order (v1 : Int32) (S : zS) (post : Int32 → zS → Prop) : Prop :=
    P_P_mustBeParted S (fun S1 =>
    P_P_mustBeBelow v1 (S1 5 6) S1 (fun S12 =>
    vp_in v1 288 ∧ post (S12 28 (z_ix v1)) S12))
def P_P_cover (v1 : Int32) (v2 : Int32) (S : zS) (post : Int32 → zS → Prop) : Prop :=
    P_P_mustBeParted S (fun S1 =>
    P_P_mustBeBelow v1 (S1 21 4) S1 (fun S12 =>
    P_P_mustBeTold v2 4 S12 (fun S17 =>
    (v2 = 0 →
    vp_in v1 6 ∧ post (S17 22 (z_ix v1)) S17) ∧
    (v2 = 1 →
    vp_in v1 6 ∧ post (S17 23 (z_ix v1)) S17) ∧
    (v2 = 2 →
    vp_in v1 6 ∧ post (S17 24 (z_ix v1)) S17) ∧
    (¬ v2 = 0 → ¬ v2 = 1 → ¬ v2 = 2 → 
    vp_in v1 6 ∧ post (S17 25 (z_ix v1)) S17))))
def P_P_strip (v1 : Int32) (S : zS) (post : Int32 → zS → Prop) : Prop :=
    P_P_mustBeParted S (fun S1 =>
    P_P_mustBeBelow v1 (S1 0 0) S1 (fun S9 =>
    vp_in v1 24 ∧ post (S9 4 (z_ix v1)) S9))
def P_P_cell (v1 : Int32) (v2 : Int32) (S : zS) (post : Int32 → zS → Prop) : Prop :=
    P_P_mustBeParted S (fun S1 =>
    P_P_mustBeBelow v1 (S1 13 6) S1 (fun S12 =>
    P_P_mustBeTold v2 5 S12 (fun S17 =>
    (¬ v2 = 4 →
    P_G_boxOf 13 v1 v2 S17 (fun r43 S43 =>
    post r43 S43)) ∧
    (v2 = 4 →
    vp_in v1 288 ∧ post (S17 19 (z_ix v1)) S17))))
def P_P_isSpeck (v1 : Int32) (v2 : Int32) (S : zS) (post : Int32 → zS → Prop) : Prop :=
    P_P_mustBeParted S (fun S1 =>
    P_P_mustBeSample v1 v2 S1 (fun S7 =>
    ∀ x16 : Int32, x16 = ((v2 * 24) + v1) → vp_in x16 576 ∧ ((S7 1 (z_ix x16)) = 0 →
    post 0 S7) ∧
    (¬ (S7 1 (z_ix x16)) = 0 →
    vp_in x16 576 ∧ (¬ (S7 2 (z_ix x16)) = 0 →
    post 0 S7) ∧
    ((S7 2 (z_ix x16)) = 0 →
    post 1 S7))))
def P_P_toldOfParted (v1 : Int32) (S : zS) (post : Int32 → zS → Prop) : Prop :=
    (v1 = 3 →
    post (S 5 6) S) ∧
    (v1 = 4 →
    post (S 21 4) S) ∧
    (v1 = 5 →
    post (S 0 12) S) ∧
    (v1 = 6 →
    post (S 13 6) S) ∧
    (v1 = 7 →
    post ((S 0 10) - (S 0 11)) S) ∧
    (¬ v1 = 3 → ¬ v1 = 4 → ¬ v1 = 5 → ¬ v1 = 6 → ¬ v1 = 7 → 
    post (-1) S)
def P_P_told (v1 : Int32) (S : zS) (post : Int32 → zS → Prop) : Prop :=
    (v1 = 0 →
    post (S 0 0) S) ∧
    (v1 = 1 →
    post (S 0 1) S) ∧
    (v1 = 2 →
    post (S 0 10) S) ∧
    (¬ v1 = 0 → ¬ v1 = 1 → ¬ v1 = 2 → 
    ((S 0 14) = 0 →
    post (-1) S) ∧
    (¬ (S 0 14) = 0 →
    P_P_toldOfParted v1 S (fun r52 S52 =>
    post r52 S52)))
def L_P_clear_2 (post : zS → Prop) (K22 : zS → Prop) : Nat → Int32 → zS → Prop
  | 0, _, _ => False
  | n + 1, v1, S =>
    (576 ≤ v1 →
    K22 S) ∧
    (¬ 576 ≤ v1 →
    vp_in v1 576 ∧ ∀ S15 : zS, S15 = z_su S 1 (z_ix v1) 0 → ∀ x16 : Int32, x16 = v1 + 1 → L_P_clear_2 post K22 n x16 S15)
def P_P_clear (S : zS) (post : zS → Prop) : Prop :=
    ∃ k2, L_P_clear_2 post (fun S2e =>
    ∀ S24 : zS, S24 = z_su S2e 0 10 0 → ∀ S29 : zS, S29 = z_su S24 0 13 3 → ∀ S34 : zS, S34 = z_su S29 0 14 0 → post S34) k2 0 S
def P_M_nearest (v0 : Int32) (S : zS) (post : Int32 → zS → Prop) : Prop :=
    (1 ≤ v0 →
    (v0 ≤ 24 →
    post v0 S) ∧
    (¬ v0 ≤ 24 →
    post 24 S)) ∧
    (¬ 1 ≤ v0 →
    post 1 S)
def P_M_thrown (S : zS) (post : Int32 → zS → Prop) : Prop :=
    post (S 31 0) S
def P_M_in (v0 : Int32) (v1 : Int32) (v2 : Int32) (S : zS) (post : Int32 → zS → Prop) : Prop :=
    (v0 < v1 →
    post 0 S) ∧
    (¬ v0 < v1 →
    (v2 < v0 →
    post 0 S) ∧
    (¬ v2 < v0 →
    post 1 S))
def P_M_isSample (v1 : Int32) (v2 : Int32) (S : zS) (post : Int32 → zS → Prop) : Prop :=
    P_M_in v1 0 ((S 31 1) - 1) S (fun r8 S8 =>
    (r8 = 0 →
    post 0 S8) ∧
    (¬ r8 = 0 →
    P_M_in v2 0 ((S8 31 2) - 1) S8 (fun r22 S22 =>
    (r22 = 0 →
    post 0 S22) ∧
    (¬ r22 = 0 →
    post 1 S22))))
def J_M_goes_26 (post : Int32 → zS → Prop) (t0 : Int32) (S : zS) : Prop :=
    ∀ S26 : zS, S26 = z_su S 31 0 t0 → (¬ (S26 31 0) = 0 →
    post 0 S26) ∧
    ((S26 31 0) = 0 →
    post 1 S26)
def P_M_goes (v1 : Int32) (v2 : Int32) (v3 : Int32) (S : zS) (post : Int32 → zS → Prop) : Prop :=
    (¬ v1 = 0 →
    (¬ v2 = 0 →
    (¬ v3 = 0 →
    J_M_goes_26 post 0 S) ∧
    (v3 = 0 →
    J_M_goes_26 post 3 S)) ∧
    (v2 = 0 →
    J_M_goes_26 post 2 S)) ∧
    (v1 = 0 →
    J_M_goes_26 post 1 S)
def J_M_put_41 (post : Int32 → zS → Prop) (v3 : Int32) (v4 : Int32) (t0 : Int32) (S : zS) : Prop :=
    vp_in v4 576 ∧ z_bo v3 ∧ ∀ S50 : zS, S50 = z_su S 32 (z_ix v4) v3 → ∀ S53 : zS, S53 = z_su S50 31 5 0 → z_bo t0 ∧ post t0 S53
def P_M_put (v1 : Int32) (v2 : Int32) (v3 : Int32) (S : zS) (post : Int32 → zS → Prop) : Prop :=
    P_M_isSample v1 v2 S (fun r4 S4 =>
    P_M_goes r4 1 1 S4 (fun r9 S9 =>
    (¬ r9 = 0 →
    ∀ x23 : Int32, x23 = ((24 * v2) + v1) → vp_in x23 576 ∧ ((S9 32 (z_ix x23)) = v3 →
    J_M_put_41 post v3 x23 0 S9) ∧
    (¬ (S9 32 (z_ix x23)) = v3 →
    J_M_put_41 post v3 x23 1 S9)) ∧
    (r9 = 0 →
    post 0 S9)))
def J_M_fill_103 (post : Int32 → zS → Prop) (K59 : Int32 → Int32 → zS → Prop) (v1 : Int32) (v2 : Int32) (v3 : Int32) (v4 : Int32) (v5 : Int32) (v7 : Int32) (v8 : Int32) (t0 : Int32) (S : zS) : Prop :=
    vp_in ((24 * v7) + v8) 576 ∧ z_bo v5 ∧ ∀ S119 : zS, S119 = z_su S 32 (z_ix ((24 * v7) + v8)) v5 → ∀ x120 : Int32, x120 = v8 + 1 → K59 t0 x120 S119
def L_M_fill_59 (post : Int32 → zS → Prop) (K126 : Int32 → zS → Prop) (v1 : Int32) (v2 : Int32) (v3 : Int32) (v4 : Int32) (v5 : Int32) (v7 : Int32) : Nat → Int32 → Int32 → zS → Prop
  | 0, _, _, _ => False
  | n + 1, v6, v8, S =>
    ((S 31 1) ≤ v8 →
    K126 v6 S) ∧
    (¬ (S 31 1) ≤ v8 →
    (v3 ≤ (v8 - v1) →
    K126 v6 S) ∧
    (¬ v3 ≤ (v8 - v1) →
    vp_in ((24 * v7) + v8) 576 ∧ ((S 32 (z_ix ((24 * v7) + v8))) = v5 →
    J_M_fill_103 post (L_M_fill_59 post K126 v1 v2 v3 v4 v5 v7 n) v1 v2 v3 v4 v5 v7 v8 v6 S) ∧
    (¬ (S 32 (z_ix ((24 * v7) + v8))) = v5 →
    J_M_fill_103 post (L_M_fill_59 post K126 v1 v2 v3 v4 v5 v7 n) v1 v2 v3 v4 v5 v7 v8 (v6 + 1) S)))
def L_M_fill_38 (post : Int32 → zS → Prop) (K132 : Int32 → zS → Prop) (v1 : Int32) (v2 : Int32) (v3 : Int32) (v4 : Int32) (v5 : Int32) : Nat → Int32 → Int32 → zS → Prop
  | 0, _, _, _ => False
  | n + 1, v6, v7, S =>
    ((S 31 2) ≤ v7 →
    K132 v6 S) ∧
    (¬ (S 31 2) ≤ v7 →
    (v4 ≤ (v7 - v2) →
    K132 v6 S) ∧
    (¬ v4 ≤ (v7 - v2) →
    ∃ k59, L_M_fill_59 post (fun v6_59e S59e =>
    ∀ x126 : Int32, x126 = v7 + 1 → L_M_fill_38 post K132 v1 v2 v3 v4 v5 n v6_59e x126 S59e) v1 v2 v3 v4 v5 v7 k59 v6 v1 S))
def J_M_fill_23 (post : Int32 → zS → Prop) (v1 : Int32) (v2 : Int32) (v3 : Int32) (v4 : Int32) (v5 : Int32) (t0 : Int32) (t1 : Int32) (S : zS) : Prop :=
    P_M_goes t1 t0 1 S (fun r24 S24 =>
    (¬ r24 = 0 →
    ∃ k38, L_M_fill_38 post (fun v6_38e S38e =>
    ∀ S134 : zS, S134 = z_su S38e 31 5 0 → post v6_38e S134) v1 v2 v3 v4 v5 k38 0 v2 S24) ∧
    (r24 = 0 →
    post 0 S24))
def J_M_fill_22 (post : Int32 → zS → Prop) (v1 : Int32) (v2 : Int32) (v3 : Int32) (v4 : Int32) (v5 : Int32) (t0 : Int32) (S : zS) : Prop :=
    J_M_fill_23 post v1 v2 v3 v4 v5 0 t0 S
def P_M_fill (v1 : Int32) (v2 : Int32) (v3 : Int32) (v4 : Int32) (v5 : Int32) (S : zS) (post : Int32 → zS → Prop) : Prop :=
    P_M_isSample v1 v2 S (fun r4 S4 =>
    (v3 < 1 →
    J_M_fill_22 post v1 v2 v3 v4 v5 r4 S4) ∧
    (¬ v3 < 1 →
    (v4 < 1 →
    J_M_fill_22 post v1 v2 v3 v4 v5 r4 S4) ∧
    (¬ v4 < 1 →
    J_M_fill_23 post v1 v2 v3 v4 v5 1 r4 S4)))
def P_M_noise (v1 : Int32) (S : zS) (post : Int32 → zS → Prop) : Prop :=
    P_M_in v1 0 100 S (fun r5 S5 =>
    P_M_goes r5 1 1 S5 (fun r10 S10 =>
    (¬ r10 = 0 →
    ∀ x22 : Int32, x22 = (S10 31 4) → ∀ S25 : zS, S25 = z_su S10 31 4 v1 → ∀ S30 : zS, S30 = z_su S25 31 5 0 → post x22 S30) ∧
    (r10 = 0 →
    post 0 S10)))
def L_M_clear_7 (post : zS → Prop) (K27 : zS → Prop) : Nat → Int32 → zS → Prop
  | 0, _, _ => False
  | n + 1, v1, S =>
    (576 ≤ v1 →
    K27 S) ∧
    (¬ 576 ≤ v1 →
    vp_in v1 576 ∧ ∀ S20 : zS, S20 = z_su S 32 (z_ix v1) 0 → ∀ x21 : Int32, x21 = v1 + 1 → L_M_clear_7 post K27 n x21 S20)
def P_M_clear (S : zS) (post : zS → Prop) : Prop :=
    ∀ S2 : zS, S2 = z_su S 31 0 0 → ∃ k7, L_M_clear_7 post (fun S7e =>
    ∀ S29 : zS, S29 = z_su S7e 31 4 3 → ∀ S34 : zS, S34 = z_su S29 31 5 0 → post S34) k7 0 S2
def P_M_is (v1 : Int32) (v2 : Int32) (S : zS) (post : Int32 → zS → Prop) : Prop :=
    (¬ v1 = 0 →
    (¬ v1 = 1 →
    vp_in v2 576 ∧ (¬ (S 34 (z_ix v2)) = 0 →
    post 0 S) ∧
    ((S 34 (z_ix v2)) = 0 →
    post 1 S)) ∧
    (v1 = 1 →
    vp_in v2 576 ∧ z_bo (S 35 (z_ix v2)) ∧ post (S 35 (z_ix v2)) S)) ∧
    (v1 = 0 →
    vp_in v2 576 ∧ z_bo (S 32 (z_ix v2)) ∧ post (S 32 (z_ix v2)) S)
def J_M_settles_60 (post : Int32 → zS → Prop) (K35 : Int32 → Int32 → zS → Prop) (v1 : Int32) (v2 : Int32) (v3 : Int32) (v4 : Int32) (v5 : Int32) (v6 : Int32) (v7 : Int32) (t0 : Int32) (S : zS) : Prop :=
    (t0 = 0 →
    ∀ x122 : Int32, x122 = v7 + 1 → K35 v5 x122 S) ∧
    (¬ t0 = 0 →
    P_M_isSample (v1 + v7) (v2 + v6) S (fun r76 S76 =>
    (r76 = 0 →
    ∀ x122 : Int32, x122 = v7 + 1 → K35 v5 x122 S76) ∧
    (¬ r76 = 0 →
    vp_in ((v4 + (24 * v6)) + v7) 576 ∧ ∀ x98 : Int32, x98 = (S76 37 (z_ix ((v4 + (24 * v6)) + v7))) → (x98 = (-1) →
    ∀ x122 : Int32, x122 = v7 + 1 → K35 v5 x122 S76) ∧
    (¬ x98 = (-1) →
    (v5 ≤ x98 →
    ∀ x122 : Int32, x122 = v7 + 1 → K35 v5 x122 S76) ∧
    (¬ v5 ≤ x98 →
    ∀ x122 : Int32, x122 = v7 + 1 → K35 x98 x122 S76)))))
def J_M_settles_55 (post : Int32 → zS → Prop) (K35 : Int32 → Int32 → zS → Prop) (v1 : Int32) (v2 : Int32) (v3 : Int32) (v4 : Int32) (v5 : Int32) (v6 : Int32) (v7 : Int32) (S : zS) : Prop :=
    J_M_settles_60 post K35 v1 v2 v3 v4 v5 v6 v7 1 S
def L_M_settles_35 (post : Int32 → zS → Prop) (K128 : Int32 → zS → Prop) (v1 : Int32) (v2 : Int32) (v3 : Int32) (v4 : Int32) (v6 : Int32) : Nat → Int32 → Int32 → zS → Prop
  | 0, _, _, _ => False
  | n + 1, v5, v7, S =>
    (1 < v7 →
    K128 v5 S) ∧
    (¬ 1 < v7 →
    (¬ v3 = 0 →
    J_M_settles_55 post (L_M_settles_35 post K128 v1 v2 v3 v4 v6 n) v1 v2 v3 v4 v5 v6 v7 S) ∧
    (v3 = 0 →
    (v7 = 0 →
    J_M_settles_55 post (L_M_settles_35 post K128 v1 v2 v3 v4 v6 n) v1 v2 v3 v4 v5 v6 v7 S) ∧
    (¬ v7 = 0 →
    (¬ v6 = 0 →
    J_M_settles_60 post (L_M_settles_35 post K128 v1 v2 v3 v4 v6 n) v1 v2 v3 v4 v5 v6 v7 0 S) ∧
    (v6 = 0 →
    J_M_settles_55 post (L_M_settles_35 post K128 v1 v2 v3 v4 v6 n) v1 v2 v3 v4 v5 v6 v7 S))))
def L_M_settles_20 (post : Int32 → zS → Prop) (K134 : Int32 → zS → Prop) (v1 : Int32) (v2 : Int32) (v3 : Int32) (v4 : Int32) : Nat → Int32 → Int32 → zS → Prop
  | 0, _, _, _ => False
  | n + 1, v5, v6, S =>
    (1 < v6 →
    K134 v5 S) ∧
    (¬ 1 < v6 →
    (v5 = (-1) →
    K134 v5 S) ∧
    (¬ v5 = (-1) →
    ∃ k35, L_M_settles_35 post (fun v5_35e S35e =>
    ∀ x128 : Int32, x128 = v6 + 1 → L_M_settles_20 post K134 v1 v2 v3 v4 n v5_35e x128 S35e) v1 v2 v3 v4 v6 k35 v5 (-1) S))
def J_M_settles_134 (post : Int32 → zS → Prop) (v4 : Int32) (v5 : Int32) (S : zS) : Prop :=
    vp_in v4 576 ∧ (v5 = (S 37 (z_ix v4)) →
    vp_in v4 576 ∧ ∀ S161 : zS, S161 = z_su S 37 (z_ix v4) v5 → post 0 S161) ∧
    (¬ v5 = (S 37 (z_ix v4)) →
    vp_in v4 576 ∧ ∀ S161 : zS, S161 = z_su S 37 (z_ix v4) v5 → post 1 S161)
def P_M_settles (v1 : Int32) (v2 : Int32) (v3 : Int32) (S : zS) (post : Int32 → zS → Prop) : Prop :=
    ∀ x6 : Int32, x6 = ((24 * v2) + v1) → vp_in x6 576 ∧ ∀ x15 : Int32, x15 = (S 37 (z_ix x6)) → ∃ k20, L_M_settles_20 post (fun v5_20e S20e =>
    J_M_settles_134 post x6 v5_20e S20e) v1 v2 v3 x6 k20 x15 (-1) S
def L_M_group_13 (post : zS → Prop) (K66 : zS → Prop) (v1 : Int32) (v2 : Int32) (v3 : Int32) : Nat → Int32 → zS → Prop
  | 0, _, _ => False
  | n + 1, v4, S =>
    ((S 31 1) ≤ v4 →
    K66 S) ∧
    (¬ (S 31 1) ≤ v4 →
    P_M_is v1 ((24 * v3) + v4) S (fun r42 S42 =>
    (r42 = 0 →
    vp_in ((24 * v3) + v4) 576 ∧ ∀ S59 : zS, S59 = z_su S42 37 (z_ix ((24 * v3) + v4)) (-1) → ∀ x60 : Int32, x60 = v4 + 1 → L_M_group_13 post K66 v1 v2 v3 n x60 S59) ∧
    (¬ r42 = 0 →
    vp_in ((24 * v3) + v4) 576 ∧ ∀ S59 : zS, S59 = z_su S42 37 (z_ix ((24 * v3) + v4)) ((24 * v3) + v4) → ∀ x60 : Int32, x60 = v4 + 1 → L_M_group_13 post K66 v1 v2 v3 n x60 S59)))
def L_M_group_2 (post : zS → Prop) (K72 : zS → Prop) (v1 : Int32) (v2 : Int32) : Nat → Int32 → zS → Prop
  | 0, _, _ => False
  | n + 1, v3, S =>
    ((S 31 2) ≤ v3 →
    K72 S) ∧
    (¬ (S 31 2) ≤ v3 →
    ∃ k13, L_M_group_13 post (fun S13e =>
    ∀ x66 : Int32, x66 = v3 + 1 → L_M_group_2 post K72 v1 v2 n x66 S13e) v1 v2 v3 k13 0 S)
def J_M_group_152 (post : zS → Prop) (K86 : Int32 → Int32 → zS → Prop) (v2 : Int32) (v4 : Int32) (v5 : Int32) (S : zS) : Prop :=
    ∀ x158 : Int32, x158 = v5 + 1 → K86 1 x158 S
def J_M_group_124 (post : zS → Prop) (K86 : Int32 → Int32 → zS → Prop) (v2 : Int32) (v3 : Int32) (v4 : Int32) (v5 : Int32) (t0 : Int32) (S : zS) : Prop :=
    ¬ (S 31 1) = 0 ∧ ¬ (S 31 1) = 0 ∧ P_M_settles (t0 - t0 / (S 31 1) * (S 31 1)) (t0 / (S 31 1)) v2 S (fun r142 S142 =>
    (¬ r142 = 0 →
    J_M_group_152 post K86 v2 v4 v5 S142) ∧
    (r142 = 0 →
    (v3 = 0 →
    ∀ x158 : Int32, x158 = v5 + 1 → K86 0 x158 S142) ∧
    (¬ v3 = 0 →
    J_M_group_152 post K86 v2 v4 v5 S142)))
def L_M_group_86 (post : zS → Prop) (K164 : Int32 → zS → Prop) (v2 : Int32) (v4 : Int32) : Nat → Int32 → Int32 → zS → Prop
  | 0, _, _, _ => False
  | n + 1, v3, v5, S =>
    (((S 31 1) * (S 31 2)) ≤ v5 →
    K164 v3 S) ∧
    (¬ ((S 31 1) * (S 31 2)) ≤ v5 →
    (v4 = 0 →
    J_M_group_124 post (L_M_group_86 post K164 v2 v4 n) v2 v3 v4 v5 ((((S 31 1) * (S 31 2)) - 1) - v5) S) ∧
    (¬ v4 = 0 →
    J_M_group_124 post (L_M_group_86 post K164 v2 v4 n) v2 v3 v4 v5 v5 S))
def L_M_group_77 (post : zS → Prop) (v2 : Int32) : Nat → Int32 → Int32 → zS → Prop
  | 0, _, _, _ => False
  | n + 1, v3, v4, S =>
    (v3 = 0 →
    post S) ∧
    (¬ v3 = 0 →
    ∃ k86, L_M_group_86 post (fun v3_86e S86e =>
    (¬ v4 = 0 →
    L_M_group_77 post v2 n v3_86e 0 S86e) ∧
    (v4 = 0 →
    L_M_group_77 post v2 n v3_86e 1 S86e)) v2 v4 k86 0 0 S)
def P_M_group (v1 : Int32) (v2 : Int32) (S : zS) (post : zS → Prop) : Prop :=
    ∃ k2, L_M_group_2 post (fun S2e =>
    ∃ k77, L_M_group_77 post v2 k77 1 1 S2e) v1 v2 k2 0 S
def L_M_sizeOf_15 (post : Int32 → zS → Prop) (K54 : Int32 → zS → Prop) (v1 : Int32) (v3 : Int32) : Nat → Int32 → Int32 → zS → Prop
  | 0, _, _, _ => False
  | n + 1, v2, v4, S =>
    ((S 31 1) ≤ v4 →
    K54 v2 S) ∧
    (¬ (S 31 1) ≤ v4 →
    vp_in ((24 * v3) + v4) 576 ∧ (¬ (S 37 (z_ix ((24 * v3) + v4))) = v1 →
    ∀ x48 : Int32, x48 = v4 + 1 → L_M_sizeOf_15 post K54 v1 v3 n v2 x48 S) ∧
    ((S 37 (z_ix ((24 * v3) + v4))) = v1 →
    ∀ x47 : Int32, x47 = (v2 + 1) → ∀ x48 : Int32, x48 = v4 + 1 → L_M_sizeOf_15 post K54 v1 v3 n x47 x48 S))
def L_M_sizeOf_4 (post : Int32 → zS → Prop) (v1 : Int32) : Nat → Int32 → Int32 → zS → Prop
  | 0, _, _, _ => False
  | n + 1, v2, v3, S =>
    ((S 31 2) ≤ v3 →
    post v2 S) ∧
    (¬ (S 31 2) ≤ v3 →
    ∃ k15, L_M_sizeOf_15 post (fun v2_15e S15e =>
    ∀ x54 : Int32, x54 = v3 + 1 → L_M_sizeOf_4 post v1 n v2_15e x54 S15e) v1 v3 k15 v2 0 S)
def P_M_sizeOf (v1 : Int32) (S : zS) (post : Int32 → zS → Prop) : Prop :=
    ∃ k4, L_M_sizeOf_4 post v1 k4 0 0 S
def L_M_inGap_6 (post : Int32 → zS → Prop) (K49 : Int32 → Int32 → zS → Prop) (v3 : Int32) (v4 : Int32) (v5 : Int32) : Nat → Int32 → Int32 → zS → Prop
  | 0, _, _, _ => False
  | n + 1, v6, v7, S =>
    P_M_isSample v6 v7 S (fun r11 S11 =>
    (r11 = 0 →
    K49 v6 v7 S11) ∧
    (¬ r11 = 0 →
    vp_in ((24 * v7) + v6) 576 ∧ (¬ (S11 34 (z_ix ((24 * v7) + v6))) = 0 →
    K49 v6 v7 S11) ∧
    ((S11 34 (z_ix ((24 * v7) + v6))) = 0 →
    ∀ x37 : Int32, x37 = (v6 - v3) → ∀ x44 : Int32, x44 = (v7 - v4) → L_M_inGap_6 post K49 v3 v4 v5 n x37 x44 S11)))
def L_M_inGap_78 (post : Int32 → zS → Prop) (K124 : Int32 → Int32 → Int32 → zS → Prop) (v3 : Int32) (v4 : Int32) (v5 : Int32) : Nat → Int32 → Int32 → Int32 → zS → Prop
  | 0, _, _, _, _ => False
  | n + 1, v6, v7, v8, S =>
    P_M_isSample v6 v7 S (fun r83 S83 =>
    (r83 = 0 →
    K124 v6 v7 v8 S83) ∧
    (¬ r83 = 0 →
    vp_in ((24 * v7) + v6) 576 ∧ (¬ (S83 34 (z_ix ((24 * v7) + v6))) = 0 →
    K124 v6 v7 v8 S83) ∧
    ((S83 34 (z_ix ((24 * v7) + v6))) = 0 →
    ∀ x105 : Int32, x105 = v8 + 1 → ∀ x112 : Int32, x112 = (v6 + v3) → ∀ x119 : Int32, x119 = (v7 + v4) → L_M_inGap_78 post K124 v3 v4 v5 n x112 x119 x105 S83)))
def J_M_inGap_124 (post : Int32 → zS → Prop) (v5 : Int32) (v6 : Int32) (v7 : Int32) (v8 : Int32) (S : zS) : Prop :=
    P_M_isSample v6 v7 S (fun r129 S129 =>
    (r129 = 0 →
    post 0 S129) ∧
    (¬ r129 = 0 →
    (v5 < v8 →
    post 0 S129) ∧
    (¬ v5 < v8 →
    post 1 S129)))
def J_M_inGap_49 (post : Int32 → zS → Prop) (v3 : Int32) (v4 : Int32) (v5 : Int32) (v6 : Int32) (v7 : Int32) (S : zS) : Prop :=
    P_M_isSample v6 v7 S (fun r54 S54 =>
    (¬ r54 = 0 →
    ∀ x69 : Int32, x69 = (v6 + v3) → ∀ x76 : Int32, x76 = (v7 + v4) → ∃ k78, L_M_inGap_78 post (fun v6_78e v7_78e v8_78e S78e =>
    J_M_inGap_124 post v5 v6_78e v7_78e v8_78e S78e) v3 v4 v5 k78 x69 x76 0 S54) ∧
    (r54 = 0 →
    post 0 S54))
def P_M_inGap (v1 : Int32) (v2 : Int32) (v3 : Int32) (v4 : Int32) (v5 : Int32) (S : zS) (post : Int32 → zS → Prop) : Prop :=
    ∃ k6, L_M_inGap_6 post (fun v6_6e v7_6e S6e =>
    J_M_inGap_49 post v3 v4 v5 v6_6e v7_6e S6e) v3 v4 v5 k6 v1 v2 S
def J_M_takeInk_76 (post : zS → Prop) (K19 : Int32 → zS → Prop) (v1 : Int32) (v2 : Int32) (v3 : Int32) (v4 : Int32) (v5 : Int32) (t0 : Int32) (t1 : Int32) (S : zS) : Prop :=
    vp_in t1 576 ∧ z_bo t0 ∧ ∀ S76 : zS, S76 = z_su S 33 (z_ix t1) t0 → vp_in v5 576 ∧ ((S76 32 (z_ix v5)) = 0 →
    vp_in v5 576 ∧ ∀ S108 : zS, S108 = z_su S76 34 (z_ix v5) 0 → ∀ x109 : Int32, x109 = v4 + 1 → K19 x109 S108) ∧
    (¬ (S76 32 (z_ix v5)) = 0 →
    vp_in v5 576 ∧ (¬ (S76 33 (z_ix v5)) = 0 →
    vp_in v5 576 ∧ ∀ S108 : zS, S108 = z_su S76 34 (z_ix v5) 0 → ∀ x109 : Int32, x109 = v4 + 1 → K19 x109 S108) ∧
    ((S76 33 (z_ix v5)) = 0 →
    vp_in v5 576 ∧ ∀ S108 : zS, S108 = z_su S76 34 (z_ix v5) 1 → ∀ x109 : Int32, x109 = v4 + 1 → K19 x109 S108))
def J_M_takeInk_75 (post : zS → Prop) (K19 : Int32 → zS → Prop) (v1 : Int32) (v2 : Int32) (v3 : Int32) (v4 : Int32) (v5 : Int32) (t0 : Int32) (S : zS) : Prop :=
    J_M_takeInk_76 post K19 v1 v2 v3 v4 v5 0 t0 S
def L_M_takeInk_19 (post : zS → Prop) (K115 : zS → Prop) (v1 : Int32) (v2 : Int32) (v3 : Int32) : Nat → Int32 → zS → Prop
  | 0, _, _ => False
  | n + 1, v4, S =>
    ((S 31 1) ≤ v4 →
    K115 S) ∧
    (¬ (S 31 1) ≤ v4 →
    ∀ x35 : Int32, x35 = ((24 * v3) + v4) → vp_in x35 576 ∧ ((S 32 (z_ix x35)) = 0 →
    J_M_takeInk_75 post (L_M_takeInk_19 post K115 v1 v2 v3 n) v1 v2 v3 v4 x35 x35 S) ∧
    (¬ (S 32 (z_ix x35)) = 0 →
    vp_in x35 576 ∧ P_M_sizeOf (S 37 (z_ix x35)) S (fun r61 S61 =>
    ((S61 31 4) ≤ r61 →
    J_M_takeInk_75 post (L_M_takeInk_19 post K115 v1 v2 v3 n) v1 v2 v3 v4 x35 x35 S61) ∧
    (¬ (S61 31 4) ≤ r61 →
    J_M_takeInk_76 post (L_M_takeInk_19 post K115 v1 v2 v3 n) v1 v2 v3 v4 x35 1 x35 S61))))
def L_M_takeInk_8 (post : zS → Prop) (K121 : zS → Prop) (v1 : Int32) (v2 : Int32) : Nat → Int32 → zS → Prop
  | 0, _, _ => False
  | n + 1, v3, S =>
    ((S 31 2) ≤ v3 →
    K121 S) ∧
    (¬ (S 31 2) ≤ v3 →
    ∃ k19, L_M_takeInk_19 post (fun S19e =>
    ∀ x115 : Int32, x115 = v3 + 1 → L_M_takeInk_8 post K121 v1 v2 n x115 S19e) v1 v2 v3 k19 0 S)
def J_M_takeInk_195 (post : zS → Prop) (K134 : Int32 → zS → Prop) (v1 : Int32) (v2 : Int32) (v3 : Int32) (v4 : Int32) (t0 : Int32) (S : zS) : Prop :=
    vp_in t0 576 ∧ ∀ S200 : zS, S200 = z_su S 35 (z_ix t0) 1 → ∀ x201 : Int32, x201 = v4 + 1 → K134 x201 S200
def L_M_takeInk_134 (post : zS → Prop) (K207 : zS → Prop) (v1 : Int32) (v2 : Int32) (v3 : Int32) : Nat → Int32 → zS → Prop
  | 0, _, _ => False
  | n + 1, v4, S =>
    ((S 31 1) ≤ v4 →
    K207 S) ∧
    (¬ (S 31 1) ≤ v4 →
    vp_in ((24 * v3) + v4) 576 ∧ (¬ (S 34 (z_ix ((24 * v3) + v4))) = 0 →
    J_M_takeInk_195 post (L_M_takeInk_134 post K207 v1 v2 v3 n) v1 v2 v3 v4 ((24 * v3) + v4) S) ∧
    ((S 34 (z_ix ((24 * v3) + v4))) = 0 →
    P_M_inGap v4 v3 1 0 v1 S (fun r176 S176 =>
    (¬ r176 = 0 →
    J_M_takeInk_195 post (L_M_takeInk_134 post K207 v1 v2 v3 n) v1 v2 v3 v4 ((24 * v3) + v4) S176) ∧
    (r176 = 0 →
    P_M_inGap v4 v3 0 1 v2 S176 (fun r189 S189 =>
    (r189 = 0 →
    vp_in ((24 * v3) + v4) 576 ∧ ∀ S200 : zS, S200 = z_su S189 35 (z_ix ((24 * v3) + v4)) 0 → ∀ x201 : Int32, x201 = v4 + 1 → L_M_takeInk_134 post K207 v1 v2 v3 n x201 S200) ∧
    (¬ r189 = 0 →
    J_M_takeInk_195 post (L_M_takeInk_134 post K207 v1 v2 v3 n) v1 v2 v3 v4 ((24 * v3) + v4) S189))))))
def L_M_takeInk_123 (post : zS → Prop) (v1 : Int32) (v2 : Int32) : Nat → Int32 → zS → Prop
  | 0, _, _ => False
  | n + 1, v3, S =>
    ((S 31 2) ≤ v3 →
    post S) ∧
    (¬ (S 31 2) ≤ v3 →
    ∃ k134, L_M_takeInk_134 post (fun S134e =>
    ∀ x207 : Int32, x207 = v3 + 1 → L_M_takeInk_123 post v1 v2 n x207 S134e) v1 v2 v3 k134 0 S)
def P_M_takeInk (v1 : Int32) (v2 : Int32) (S : zS) (post : zS → Prop) : Prop :=
    P_M_group 0 1 S (fun S3 =>
    ∃ k8, L_M_takeInk_8 post (fun S8e =>
    ∃ k123, L_M_takeInk_123 post v1 v2 k123 0 S8e) v1 v2 k8 0 S3)
def J_M_cleanIn_60 (post : Int32 → zS → Prop) (K16 : Int32 → Int32 → zS → Prop) (v1 : Int32) (v3 : Int32) (v4 : Int32) (v5 : Int32) (v6 : Int32) (v7 : Int32) (v8 : Int32) (S : zS) : Prop :=
    ∀ x69 : Int32, x69 = (v6 + 1) → ∀ x71 : Int32, x71 = v8 + 1 → K16 x69 x71 S
def L_M_cleanIn_16 (post : Int32 → zS → Prop) (K77 : Int32 → zS → Prop) (v1 : Int32) (v3 : Int32) (v4 : Int32) (v5 : Int32) (v7 : Int32) : Nat → Int32 → Int32 → zS → Prop
  | 0, _, _, _ => False
  | n + 1, v6, v8, S =>
    (v3 < v8 →
    K77 v6 S) ∧
    (¬ v3 < v8 →
    ∀ x30 : Int32, x30 = ((24 * v7) + v8) → vp_in x30 576 ∧ ((S 34 (z_ix x30)) = 0 →
    ∀ x71 : Int32, x71 = v8 + 1 → L_M_cleanIn_16 post K77 v1 v3 v4 v5 v7 n v6 x71 S) ∧
    (¬ (S 34 (z_ix x30)) = 0 →
    (v5 = (-1) →
    J_M_cleanIn_60 post (L_M_cleanIn_16 post K77 v1 v3 v4 v5 v7 n) v1 v3 v4 v5 v6 v7 v8 S) ∧
    (¬ v5 = (-1) →
    vp_in x30 576 ∧ (¬ (S 38 (z_ix x30)) = v5 →
    ∀ x71 : Int32, x71 = v8 + 1 → L_M_cleanIn_16 post K77 v1 v3 v4 v5 v7 n v6 x71 S) ∧
    ((S 38 (z_ix x30)) = v5 →
    J_M_cleanIn_60 post (L_M_cleanIn_16 post K77 v1 v3 v4 v5 v7 n) v1 v3 v4 v5 v6 v7 v8 S))))
def L_M_cleanIn_6 (post : Int32 → zS → Prop) (v1 : Int32) (v3 : Int32) (v4 : Int32) (v5 : Int32) : Nat → Int32 → Int32 → zS → Prop
  | 0, _, _, _ => False
  | n + 1, v6, v7, S =>
    (v4 < v7 →
    post v6 S) ∧
    (¬ v4 < v7 →
    ∃ k16, L_M_cleanIn_16 post (fun v6_16e S16e =>
    ∀ x77 : Int32, x77 = v7 + 1 → L_M_cleanIn_6 post v1 v3 v4 v5 n v6_16e x77 S16e) v1 v3 v4 v5 v7 k16 v6 v1 S)
def P_M_cleanIn (v1 : Int32) (v2 : Int32) (v3 : Int32) (v4 : Int32) (v5 : Int32) (S : zS) (post : Int32 → zS → Prop) : Prop :=
    ∃ k6, L_M_cleanIn_6 post v1 v3 v4 v5 k6 0 v2 S
def J_M_kindOf_197 (post : Int32 → zS → Prop) (v1 : Int32) (v2 : Int32) (v3 : Int32) (v4 : Int32) (v5 : Int32) (v6 : Int32) (S : zS) : Prop :=
    P_M_cleanIn v1 v2 v3 v4 (-1) S (fun r205 S205 =>
    ((2 * r205) < (v5 * v6) →
    post 0 S205) ∧
    (¬ (2 * r205) < (v5 * v6) →
    post 2 S205))
def J_M_kindOf_151 (post : Int32 → zS → Prop) (v1 : Int32) (v2 : Int32) (v3 : Int32) (v4 : Int32) (v5 : Int32) (v6 : Int32) (v7 : Int32) (t0 : Int32) (S : zS) : Prop :=
    (v7 = 0 →
    J_M_kindOf_197 post v1 v2 v3 v4 v5 v6 S) ∧
    (¬ v7 = 0 →
    (t0 = 0 →
    J_M_kindOf_197 post v1 v2 v3 v4 v5 v6 S) ∧
    (¬ t0 = 0 →
    P_M_cleanIn (v1 + 1) (v2 + 1) (v3 - 1) (v4 - 1) (-1) S (fun r179 S179 =>
    (((v5 - 2) * (v6 - 2)) < (4 * r179) →
    J_M_kindOf_197 post v1 v2 v3 v4 v5 v6 S179) ∧
    (¬ ((v5 - 2) * (v6 - 2)) < (4 * r179) →
    post 3 S179))))
def J_M_kindOf_150 (post : Int32 → zS → Prop) (v1 : Int32) (v2 : Int32) (v3 : Int32) (v4 : Int32) (v5 : Int32) (v6 : Int32) (v7 : Int32) (S : zS) : Prop :=
    J_M_kindOf_151 post v1 v2 v3 v4 v5 v6 v7 0 S
def J_M_kindOf_106 (post : Int32 → zS → Prop) (v1 : Int32) (v2 : Int32) (v3 : Int32) (v4 : Int32) (v5 : Int32) (v6 : Int32) (t0 : Int32) (S : zS) : Prop :=
    P_M_cleanIn v1 v2 v1 v4 (-1) S (fun r116 S116 =>
    ((4 * r116) < (3 * v6) →
    J_M_kindOf_150 post v1 v2 v3 v4 v5 v6 t0 S116) ∧
    (¬ (4 * r116) < (3 * v6) →
    P_M_cleanIn v3 v2 v3 v4 (-1) S116 (fun r135 S135 =>
    ((4 * r135) < (3 * v6) →
    J_M_kindOf_150 post v1 v2 v3 v4 v5 v6 t0 S135) ∧
    (¬ (4 * r135) < (3 * v6) →
    J_M_kindOf_151 post v1 v2 v3 v4 v5 v6 t0 1 S135))))
def J_M_kindOf_105 (post : Int32 → zS → Prop) (v1 : Int32) (v2 : Int32) (v3 : Int32) (v4 : Int32) (v5 : Int32) (v6 : Int32) (S : zS) : Prop :=
    J_M_kindOf_106 post v1 v2 v3 v4 v5 v6 0 S
def J_M_kindOf_47 (post : Int32 → zS → Prop) (v1 : Int32) (v2 : Int32) (v3 : Int32) (v4 : Int32) (v5 : Int32) (v6 : Int32) (S : zS) : Prop :=
    (v5 < 7 →
    post 0 S) ∧
    (¬ v5 < 7 →
    (7 ≤ v6 →
    P_M_cleanIn v1 v2 v3 v2 (-1) S (fun r70 S70 =>
    ((4 * r70) < (3 * v5) →
    J_M_kindOf_105 post v1 v2 v3 v4 v5 v6 S70) ∧
    (¬ (4 * r70) < (3 * v5) →
    P_M_cleanIn v1 v4 v3 v4 (-1) S70 (fun r90 S90 =>
    ((4 * r90) < (3 * v5) →
    J_M_kindOf_105 post v1 v2 v3 v4 v5 v6 S90) ∧
    (¬ (4 * r90) < (3 * v5) →
    J_M_kindOf_106 post v1 v2 v3 v4 v5 v6 1 S90))))) ∧
    (¬ 7 ≤ v6 →
    post 0 S))
def J_M_kindOf_30 (post : Int32 → zS → Prop) (v1 : Int32) (v2 : Int32) (v3 : Int32) (v4 : Int32) (v5 : Int32) (v6 : Int32) (S : zS) : Prop :=
    (2 < v5 →
    J_M_kindOf_47 post v1 v2 v3 v4 v5 v6 S) ∧
    (¬ 2 < v5 →
    (v6 < (5 * v5) →
    J_M_kindOf_47 post v1 v2 v3 v4 v5 v6 S) ∧
    (¬ v6 < (5 * v5) →
    post 1 S))
def P_M_kindOf (v1 : Int32) (v2 : Int32) (v3 : Int32) (v4 : Int32) (S : zS) (post : Int32 → zS → Prop) : Prop :=
    ∀ x5 : Int32, x5 = ((v3 - v1) + 1) → ∀ x13 : Int32, x13 = ((v4 - v2) + 1) → (2 < x13 →
    J_M_kindOf_30 post v1 v2 v3 v4 x5 x13 S) ∧
    (¬ 2 < x13 →
    ((5 * x13) ≤ x5 →
    post 1 S) ∧
    (¬ (5 * x13) ≤ x5 →
    J_M_kindOf_30 post v1 v2 v3 v4 x5 x13 S))
def J_M_takeParts_206 (post : zS → Prop) (K23 : Int32 → zS → Prop) (v1 : Int32) (v2 : Int32) (v4 : Int32) (t0 : Int32) (t1 : Int32) (S : zS) : Prop :=
    vp_in t1 300 ∧ ∀ S206 : zS, S206 = z_su S 41 (z_ix t1) t0 → vp_in v4 300 ∧ ∀ S214 : zS, S214 = z_su S206 42 (z_ix v4) v1 → ∀ x215 : Int32, x215 = v2 + 1 → K23 x215 S214
def J_M_takeParts_177 (post : zS → Prop) (K23 : Int32 → zS → Prop) (v1 : Int32) (v2 : Int32) (v4 : Int32) (t0 : Int32) (t1 : Int32) (S : zS) : Prop :=
    vp_in t1 300 ∧ ∀ S177 : zS, S177 = z_su S 39 (z_ix t1) t0 → vp_in v4 300 ∧ (v2 ≤ (S177 41 (z_ix v4)) →
    vp_in v4 300 ∧ J_M_takeParts_206 post K23 v1 v2 v4 (S177 41 (z_ix v4)) v4 S177) ∧
    (¬ v2 ≤ (S177 41 (z_ix v4)) →
    J_M_takeParts_206 post K23 v1 v2 v4 v2 v4 S177)
def L_M_takeParts_23 (post : zS → Prop) (K221 : zS → Prop) (v1 : Int32) : Nat → Int32 → zS → Prop
  | 0, _, _ => False
  | n + 1, v2, S =>
    ((S 31 1) ≤ v2 →
    K221 S) ∧
    (¬ (S 31 1) ≤ v2 →
    ∀ x37 : Int32, x37 = ((24 * v1) + v2) → vp_in x37 576 ∧ ∀ S44 : zS, S44 = z_su S 38 (z_ix x37) (-1) → vp_in x37 576 ∧ (¬ (S44 37 (z_ix x37)) = x37 →
    vp_in x37 576 ∧ ((S44 37 (z_ix x37)) = (-1) →
    ∀ x215 : Int32, x215 = v2 + 1 → L_M_takeParts_23 post K221 v1 n x215 S44) ∧
    (¬ (S44 37 (z_ix x37)) = (-1) →
    vp_in x37 576 ∧ vp_in (S44 37 (z_ix x37)) 576 ∧ ∀ x139 : Int32, x139 = (S44 38 (z_ix (S44 37 (z_ix x37)))) → vp_in x37 576 ∧ ∀ S148 : zS, S148 = z_su S44 38 (z_ix x37) x139 → vp_in x139 300 ∧ ((S148 39 (z_ix x139)) ≤ v2 →
    vp_in x139 300 ∧ J_M_takeParts_177 post (L_M_takeParts_23 post K221 v1 n) v1 v2 x139 (S148 39 (z_ix x139)) x139 S148) ∧
    (¬ (S148 39 (z_ix x139)) ≤ v2 →
    J_M_takeParts_177 post (L_M_takeParts_23 post K221 v1 n) v1 v2 x139 v2 x139 S148))) ∧
    ((S44 37 (z_ix x37)) = x37 →
    vp_in x37 576 ∧ ∀ S64 : zS, S64 = z_su S44 38 (z_ix x37) (S44 31 12) → vp_in (S64 31 12) 300 ∧ ∀ S74 : zS, S74 = z_su S64 39 (z_ix (S64 31 12)) v2 → vp_in (S74 31 12) 300 ∧ ∀ S84 : zS, S84 = z_su S74 41 (z_ix (S74 31 12)) v2 → vp_in (S84 31 12) 300 ∧ ∀ S94 : zS, S94 = z_su S84 40 (z_ix (S84 31 12)) v1 → vp_in (S94 31 12) 300 ∧ ∀ S104 : zS, S104 = z_su S94 42 (z_ix (S94 31 12)) v1 → ∀ S112 : zS, S112 = z_su S104 31 12 ((S104 31 12) + 1) → ∀ x215 : Int32, x215 = v2 + 1 → L_M_takeParts_23 post K221 v1 n x215 S112))
def L_M_takeParts_13 (post : zS → Prop) (K227 : zS → Prop) : Nat → Int32 → zS → Prop
  | 0, _, _ => False
  | n + 1, v1, S =>
    ((S 31 2) ≤ v1 →
    K227 S) ∧
    (¬ (S 31 2) ≤ v1 →
    ∃ k23, L_M_takeParts_23 post (fun S23e =>
    ∀ x221 : Int32, x221 = v1 + 1 → L_M_takeParts_13 post K227 n x221 S23e) v1 k23 0 S)
def L_M_takeParts_229 (post : zS → Prop) : Nat → Int32 → zS → Prop
  | 0, _, _ => False
  | n + 1, v1, S =>
    ((S 31 12) ≤ v1 →
    post S) ∧
    (¬ (S 31 12) ≤ v1 →
    vp_in v1 300 ∧ vp_in v1 300 ∧ vp_in v1 300 ∧ vp_in v1 300 ∧ P_M_kindOf (S 39 (z_ix v1)) (S 40 (z_ix v1)) (S 41 (z_ix v1)) (S 42 (z_ix v1)) S (fun r267 S267 =>
    vp_in v1 300 ∧ ∀ S270 : zS, S270 = z_su S267 43 (z_ix v1) r267 → ∀ x271 : Int32, x271 = v1 + 1 → L_M_takeParts_229 post n x271 S270))
def P_M_takeParts (S : zS) (post : zS → Prop) : Prop :=
    P_M_group 1 0 S (fun S3 =>
    ∀ S8 : zS, S8 = z_su S3 31 12 0 → ∃ k13, L_M_takeParts_13 post (fun S13e =>
    ∃ k229, L_M_takeParts_229 post k229 0 S13e) k13 0 S8)
def L_M_takeCover_57 (post : Int32 → zS → Prop) (K116 : Int32 → zS → Prop) (v1 : Int32) (v2 : Int32) (v3 : Int32) (v4 : Int32) (v5 : Int32) (v6 : Int32) : Nat → Int32 → zS → Prop
  | 0, _, _ => False
  | n + 1, v7, S =>
    (v5 ≤ v7 →
    K116 v7 S) ∧
    (¬ v5 ≤ v7 →
    vp_in (((24 * ((v3 + v6) - 1)) + v4) + v7) 576 ∧ (¬ (S 35 (z_ix (((24 * ((v3 + v6) - 1)) + v4) + v7))) = 0 →
    K116 v7 S) ∧
    ((S 35 (z_ix (((24 * ((v3 + v6) - 1)) + v4) + v7))) = 0 →
    vp_in (((24 * ((v3 + v6) - 1)) + v4) + v7) 576 ∧ (¬ (S 36 (z_ix (((24 * ((v3 + v6) - 1)) + v4) + v7))) = 0 →
    K116 v7 S) ∧
    ((S 36 (z_ix (((24 * ((v3 + v6) - 1)) + v4) + v7))) = 0 →
    ∀ x110 : Int32, x110 = v7 + 1 → L_M_takeCover_57 post K116 v1 v2 v3 v4 v5 v6 n x110 S)))
def J_M_takeCover_116 (post : Int32 → zS → Prop) (K38 : Int32 → Int32 → Int32 → Int32 → zS → Prop) (v1 : Int32) (v2 : Int32) (v3 : Int32) (v4 : Int32) (v6 : Int32) (v7 : Int32) (S : zS) : Prop :=
    ((v7 * v6) ≤ v1 →
    ∀ x155 : Int32, x155 = v6 + 1 → K38 v1 v2 v7 x155 S) ∧
    (¬ (v7 * v6) ≤ v1 →
    ∀ x134 : Int32, x134 = (v7 * v6) → ∀ x154 : Int32, x154 = ((((((24 * v3) + v4) * 32) + v7) * 32) + v6) → ∀ x155 : Int32, x155 = v6 + 1 → K38 x134 x154 v7 x155 S)
def L_M_takeCover_38 (post : Int32 → zS → Prop) (K161 : Int32 → Int32 → zS → Prop) (v3 : Int32) (v4 : Int32) : Nat → Int32 → Int32 → Int32 → Int32 → zS → Prop
  | 0, _, _, _, _, _ => False
  | n + 1, v1, v2, v5, v6, S =>
    ((S 31 2) < (v3 + v6) →
    K161 v1 v2 S) ∧
    (¬ (S 31 2) < (v3 + v6) →
    (v5 ≤ 0 →
    K161 v1 v2 S) ∧
    (¬ v5 ≤ 0 →
    ∃ k57, L_M_takeCover_57 post (fun v7_57e S57e =>
    J_M_takeCover_116 post (L_M_takeCover_38 post K161 v3 v4 n) v1 v2 v3 v4 v6 v7_57e S57e) v1 v2 v3 v4 v5 v6 k57 0 S))
def L_M_takeCover_17 (post : Int32 → zS → Prop) (K167 : Int32 → Int32 → zS → Prop) (v3 : Int32) : Nat → Int32 → Int32 → Int32 → zS → Prop
  | 0, _, _, _, _ => False
  | n + 1, v1, v2, v4, S =>
    ((S 31 1) ≤ v4 →
    K167 v1 v2 S) ∧
    (¬ (S 31 1) ≤ v4 →
    ∀ x33 : Int32, x33 = ((S 31 1) - v4) → ∃ k38, L_M_takeCover_38 post (fun v1_38e v2_38e S38e =>
    ∀ x161 : Int32, x161 = v4 + 1 → L_M_takeCover_17 post K167 v3 n v1_38e v2_38e x161 S38e) v3 v4 k38 v1 v2 x33 1 S)
def L_M_takeCover_6 (post : Int32 → zS → Prop) (K173 : Int32 → zS → Prop) : Nat → Int32 → Int32 → Int32 → zS → Prop
  | 0, _, _, _, _ => False
  | n + 1, v1, v2, v3, S =>
    ((S 31 2) ≤ v3 →
    K173 v2 S) ∧
    (¬ (S 31 2) ≤ v3 →
    ∃ k17, L_M_takeCover_17 post (fun v1_17e v2_17e S17e =>
    ∀ x167 : Int32, x167 = v3 + 1 → L_M_takeCover_6 post K173 n v1_17e v2_17e x167 S17e) v3 k17 v1 v2 0 S)
def L_M_takeCover_279 (post : Int32 → zS → Prop) (K315 : zS → Prop) (v3 : Int32) (v4 : Int32) (v5 : Int32) (v6 : Int32) : Nat → Int32 → zS → Prop
  | 0, _, _ => False
  | n + 1, v7, S =>
    vp_in (v5 + 2) 24 ∧ ((v3 + (S 45 (z_ix (v5 + 2)))) ≤ v7 →
    K315 S) ∧
    (¬ (v3 + (S 45 (z_ix (v5 + 2)))) ≤ v7 →
    vp_in ((24 * v6) + v7) 576 ∧ ∀ S308 : zS, S308 = z_su S 36 (z_ix ((24 * v6) + v7)) 1 → ∀ x309 : Int32, x309 = v7 + 1 → L_M_takeCover_279 post K315 v3 v4 v5 v6 n x309 S308)
def L_M_takeCover_259 (post : Int32 → zS → Prop) (K321 : zS → Prop) (v3 : Int32) (v4 : Int32) (v5 : Int32) : Nat → Int32 → zS → Prop
  | 0, _, _ => False
  | n + 1, v6, S =>
    vp_in (v5 + 3) 24 ∧ ((v4 + (S 45 (z_ix (v5 + 3)))) ≤ v6 →
    K321 S) ∧
    (¬ (v4 + (S 45 (z_ix (v5 + 3)))) ≤ v6 →
    ∃ k279, L_M_takeCover_279 post (fun S279e =>
    ∀ x315 : Int32, x315 = v6 + 1 → L_M_takeCover_259 post K321 v3 v4 v5 n x315 S279e) v3 v4 v5 v6 k279 v3 S)
def P_M_takeCover (S : zS) (post : Int32 → zS → Prop) : Prop :=
    ∃ k6, L_M_takeCover_6 post (fun v2_6e S6e =>
    (¬ v2_6e = (-1) →
    ∀ x188 : Int32, x188 = ((v2_6e / 1024) - (v2_6e / 1024) / 24 * 24) → ∀ x197 : Int32, x197 = ((v2_6e / 1024) / 24) → ∀ x205 : Int32, x205 = (4 * (S6e 31 19)) → vp_in x205 24 ∧ ∀ S214 : zS, S214 = z_su S6e 45 (z_ix x205) x188 → vp_in (x205 + 1) 24 ∧ ∀ S225 : zS, S225 = z_su S214 45 (z_ix (x205 + 1)) x197 → vp_in (x205 + 2) 24 ∧ ∀ S241 : zS, S241 = z_su S225 45 (z_ix (x205 + 2)) ((v2_6e / 32) - (v2_6e / 32) / 32 * 32) → vp_in (x205 + 3) 24 ∧ ∀ S254 : zS, S254 = z_su S241 45 (z_ix (x205 + 3)) (v2_6e - v2_6e / 32 * 32) → ∃ k259, L_M_takeCover_259 post (fun S259e =>
    ∀ S328 : zS, S328 = z_su S259e 31 19 ((S259e 31 19) + 1) → post 1 S328) x188 x197 x205 k259 x197 S254) ∧
    (v2_6e = (-1) →
    post 0 S6e)) k6 3 (-1) 0 S
def L_M_takeCovers_2 (post : zS → Prop) (K22 : zS → Prop) : Nat → Int32 → zS → Prop
  | 0, _, _ => False
  | n + 1, v1, S =>
    (576 ≤ v1 →
    K22 S) ∧
    (¬ 576 ≤ v1 →
    vp_in v1 576 ∧ ∀ S15 : zS, S15 = z_su S 36 (z_ix v1) 0 → ∀ x16 : Int32, x16 = v1 + 1 → L_M_takeCovers_2 post K22 n x16 S15)
def L_M_takeCovers_29 (post : zS → Prop) : Nat → Int32 → zS → Prop
  | 0, _, _ => False
  | n + 1, v1, S =>
    (v1 = 0 →
    post S) ∧
    (¬ v1 = 0 →
    (6 ≤ (S 31 19) →
    post S) ∧
    (¬ 6 ≤ (S 31 19) →
    P_M_takeCover S (fun r43 S43 =>
    L_M_takeCovers_29 post n r43 S43)))
def P_M_takeCovers (S : zS) (post : zS → Prop) : Prop :=
    ∃ k2, L_M_takeCovers_2 post (fun S2e =>
    ∀ S24 : zS, S24 = z_su S2e 31 19 0 → ∃ k29, L_M_takeCovers_29 post k29 1 S24) k2 0 S
def J_M_takeStrips_45 (post : zS → Prop) (K19 : Int32 → Int32 → zS → Prop) (v1 : Int32) (v3 : Int32) (S : zS) : Prop :=
    ∀ x51 : Int32, x51 = v3 + 1 → K19 1 x51 S
def L_M_takeStrips_19 (post : zS → Prop) (K57 : Int32 → zS → Prop) (v1 : Int32) : Nat → Int32 → Int32 → zS → Prop
  | 0, _, _, _ => False
  | n + 1, v2, v3, S =>
    ((S 31 2) ≤ v3 →
    K57 v2 S) ∧
    (¬ (S 31 2) ≤ v3 →
    (¬ v2 = 0 →
    J_M_takeStrips_45 post (L_M_takeStrips_19 post K57 v1 n) v1 v3 S) ∧
    (v2 = 0 →
    vp_in ((24 * v3) + v1) 576 ∧ ((S 35 (z_ix ((24 * v3) + v1))) = 0 →
    ∀ x51 : Int32, x51 = v3 + 1 → L_M_takeStrips_19 post K57 v1 n 0 x51 S) ∧
    (¬ (S 35 (z_ix ((24 * v3) + v1))) = 0 →
    J_M_takeStrips_45 post (L_M_takeStrips_19 post K57 v1 n) v1 v3 S)))
def J_M_takeStrips_101 (post : zS → Prop) (K7 : Int32 → zS → Prop) (v1 : Int32) (v2 : Int32) (t0 : Int32) (S : zS) : Prop :=
    ∀ S101 : zS, S101 = z_su S 31 21 t0 → (v2 = 0 →
    vp_in v1 24 ∧ ∀ S123 : zS, S123 = z_su S101 46 (z_ix v1) (-1) → ∀ x124 : Int32, x124 = v1 + 1 → K7 x124 S123) ∧
    (¬ v2 = 0 →
    vp_in v1 24 ∧ ∀ S123 : zS, S123 = z_su S101 46 (z_ix v1) ((S101 31 21) - 1) → ∀ x124 : Int32, x124 = v1 + 1 → K7 x124 S123)
def J_M_takeStrips_97 (post : zS → Prop) (K7 : Int32 → zS → Prop) (v1 : Int32) (v2 : Int32) (S : zS) : Prop :=
    J_M_takeStrips_101 post K7 v1 v2 (S 31 21) S
def J_M_takeStrips_78 (post : zS → Prop) (K7 : Int32 → zS → Prop) (v1 : Int32) (v2 : Int32) (t0 : Int32) (S : zS) : Prop :=
    (v2 = 0 →
    J_M_takeStrips_97 post K7 v1 v2 S) ∧
    (¬ v2 = 0 →
    (¬ t0 = 0 →
    J_M_takeStrips_97 post K7 v1 v2 S) ∧
    (t0 = 0 →
    J_M_takeStrips_101 post K7 v1 v2 ((S 31 21) + 1) S))
def J_M_takeStrips_77 (post : zS → Prop) (K7 : Int32 → zS → Prop) (v1 : Int32) (v2 : Int32) (S : zS) : Prop :=
    J_M_takeStrips_78 post K7 v1 v2 0 S
def L_M_takeStrips_7 (post : zS → Prop) : Nat → Int32 → zS → Prop
  | 0, _, _ => False
  | n + 1, v1, S =>
    ((S 31 1) ≤ v1 →
    post S) ∧
    (¬ (S 31 1) ≤ v1 →
    ∃ k19, L_M_takeStrips_19 post (fun v2_19e S19e =>
    (v1 ≤ 0 →
    J_M_takeStrips_77 post (L_M_takeStrips_7 post n) v1 v2_19e S19e) ∧
    (¬ v1 ≤ 0 →
    vp_in (v1 - 1) 24 ∧ ((S19e 46 (z_ix (v1 - 1))) = (-1) →
    J_M_takeStrips_77 post (L_M_takeStrips_7 post n) v1 v2_19e S19e) ∧
    (¬ (S19e 46 (z_ix (v1 - 1))) = (-1) →
    J_M_takeStrips_78 post (L_M_takeStrips_7 post n) v1 v2_19e 1 S19e))) v1 k19 0 0 S)
def P_M_takeStrips (S : zS) (post : zS → Prop) : Prop :=
    ∀ S2 : zS, S2 = z_su S 31 21 0 → ∃ k7, L_M_takeStrips_7 post k7 0 S2
def J_M_isClosed_86 (post : Int32 → zS → Prop) (K15 : Int32 → Int32 → zS → Prop) (v1 : Int32) (v3 : Int32) (v4 : Int32) (S : zS) : Prop :=
    ∀ x92 : Int32, x92 = v4 + 1 → K15 1 x92 S
def J_M_isClosed_59 (post : Int32 → zS → Prop) (K15 : Int32 → Int32 → zS → Prop) (v1 : Int32) (v2 : Int32) (v3 : Int32) (v4 : Int32) (t0 : Int32) (S : zS) : Prop :=
    (v2 = 0 →
    ∀ x92 : Int32, x92 = v4 + 1 → K15 0 x92 S) ∧
    (¬ v2 = 0 →
    (t0 = 0 →
    J_M_isClosed_86 post K15 v1 v3 v4 S) ∧
    (¬ t0 = 0 →
    vp_in ((24 * v3) + v4) 576 ∧ ((S 37 (z_ix ((24 * v3) + v4))) = v1 →
    ∀ x92 : Int32, x92 = v4 + 1 → K15 0 x92 S) ∧
    (¬ (S 37 (z_ix ((24 * v3) + v4))) = v1 →
    J_M_isClosed_86 post K15 v1 v3 v4 S)))
def J_M_isClosed_54 (post : Int32 → zS → Prop) (K15 : Int32 → Int32 → zS → Prop) (v1 : Int32) (v2 : Int32) (v3 : Int32) (v4 : Int32) (S : zS) : Prop :=
    J_M_isClosed_59 post K15 v1 v2 v3 v4 1 S
def L_M_isClosed_15 (post : Int32 → zS → Prop) (K98 : Int32 → zS → Prop) (v1 : Int32) (v3 : Int32) : Nat → Int32 → Int32 → zS → Prop
  | 0, _, _, _ => False
  | n + 1, v2, v4, S =>
    ((S 31 1) ≤ v4 →
    K98 v2 S) ∧
    (¬ (S 31 1) ≤ v4 →
    (v4 = 0 →
    J_M_isClosed_54 post (L_M_isClosed_15 post K98 v1 v3 n) v1 v2 v3 v4 S) ∧
    (¬ v4 = 0 →
    (v3 = 0 →
    J_M_isClosed_54 post (L_M_isClosed_15 post K98 v1 v3 n) v1 v2 v3 v4 S) ∧
    (¬ v3 = 0 →
    (v4 = ((S 31 1) - 1) →
    J_M_isClosed_54 post (L_M_isClosed_15 post K98 v1 v3 n) v1 v2 v3 v4 S) ∧
    (¬ v4 = ((S 31 1) - 1) →
    (¬ v3 = ((S 31 2) - 1) →
    J_M_isClosed_59 post (L_M_isClosed_15 post K98 v1 v3 n) v1 v2 v3 v4 0 S) ∧
    (v3 = ((S 31 2) - 1) →
    J_M_isClosed_54 post (L_M_isClosed_15 post K98 v1 v3 n) v1 v2 v3 v4 S)))))
def L_M_isClosed_4 (post : Int32 → zS → Prop) (v1 : Int32) : Nat → Int32 → Int32 → zS → Prop
  | 0, _, _, _ => False
  | n + 1, v2, v3, S =>
    ((S 31 2) ≤ v3 →
    z_bo v2 ∧ post v2 S) ∧
    (¬ (S 31 2) ≤ v3 →
    ∃ k15, L_M_isClosed_15 post (fun v2_15e S15e =>
    ∀ x98 : Int32, x98 = v3 + 1 → L_M_isClosed_4 post v1 n v2_15e x98 S15e) v1 v3 k15 v2 0 S)
def P_M_isClosed (v1 : Int32) (S : zS) (post : Int32 → zS → Prop) : Prop :=
    ∃ k4, L_M_isClosed_4 post v1 k4 1 0 S
def J_M_takeCells_131 (post : zS → Prop) (K23 : Int32 → zS → Prop) (v1 : Int32) (v2 : Int32) (S : zS) : Prop :=
    ∀ S135 : zS, S135 = z_su S 31 23 (S 31 23) → ∀ x138 : Int32, x138 = v2 + 1 → K23 x138 S135
def J_M_takeCells_97 (post : zS → Prop) (K23 : Int32 → zS → Prop) (v1 : Int32) (v2 : Int32) (v3 : Int32) (t0 : Int32) (t1 : Int32) (S : zS) : Prop :=
    vp_in t1 576 ∧ ∀ S97 : zS, S97 = z_su S 47 (z_ix t1) t0 → vp_in v3 576 ∧ (¬ (S97 37 (z_ix v3)) = v3 →
    J_M_takeCells_131 post K23 v1 v2 S97) ∧
    ((S97 37 (z_ix v3)) = v3 →
    vp_in v3 576 ∧ (¬ (S97 47 (z_ix v3)) = (S97 31 23) →
    J_M_takeCells_131 post K23 v1 v2 S97) ∧
    ((S97 47 (z_ix v3)) = (S97 31 23) →
    ∀ S135 : zS, S135 = z_su S97 31 23 ((S97 31 23) + 1) → ∀ x138 : Int32, x138 = v2 + 1 → K23 x138 S135))
def L_M_takeCells_23 (post : zS → Prop) (K144 : zS → Prop) (v1 : Int32) : Nat → Int32 → zS → Prop
  | 0, _, _ => False
  | n + 1, v2, S =>
    ((S 31 1) ≤ v2 →
    K144 S) ∧
    (¬ (S 31 1) ≤ v2 →
    ∀ x37 : Int32, x37 = ((24 * v1) + v2) → vp_in x37 576 ∧ (¬ (S 37 (z_ix x37)) = x37 →
    vp_in x37 576 ∧ (¬ (S 37 (z_ix x37)) = (-1) →
    vp_in x37 576 ∧ vp_in (S 37 (z_ix x37)) 576 ∧ J_M_takeCells_97 post (L_M_takeCells_23 post K144 v1 n) v1 v2 x37 (S 47 (z_ix (S 37 (z_ix x37)))) x37 S) ∧
    ((S 37 (z_ix x37)) = (-1) →
    J_M_takeCells_97 post (L_M_takeCells_23 post K144 v1 n) v1 v2 x37 (-1) x37 S)) ∧
    ((S 37 (z_ix x37)) = x37 →
    P_M_isClosed x37 S (fun r55 S55 =>
    (r55 = 0 →
    J_M_takeCells_97 post (L_M_takeCells_23 post K144 v1 n) v1 v2 x37 (-1) x37 S55) ∧
    (¬ r55 = 0 →
    J_M_takeCells_97 post (L_M_takeCells_23 post K144 v1 n) v1 v2 x37 (S55 31 23) x37 S55))))
def L_M_takeCells_13 (post : zS → Prop) : Nat → Int32 → zS → Prop
  | 0, _, _ => False
  | n + 1, v1, S =>
    ((S 31 2) ≤ v1 →
    post S) ∧
    (¬ (S 31 2) ≤ v1 →
    ∃ k23, L_M_takeCells_23 post (fun S23e =>
    ∀ x144 : Int32, x144 = v1 + 1 → L_M_takeCells_13 post n x144 S23e) v1 k23 0 S)
def P_M_takeCells (S : zS) (post : zS → Prop) : Prop :=
    P_M_group 2 0 S (fun S3 =>
    ∀ S8 : zS, S8 = z_su S3 31 23 0 → ∃ k13, L_M_takeCells_13 post k13 0 S8)
def P_M_low (v1 : Int32) (v2 : Int32) (S : zS) (post : Int32 → zS → Prop) : Prop :=
    (v2 = 0 →
    vp_in v1 300 ∧ post (S 39 (z_ix v1)) S) ∧
    (¬ v2 = 0 →
    vp_in v1 300 ∧ post (S 40 (z_ix v1)) S)
def P_M_high (v1 : Int32) (v2 : Int32) (S : zS) (post : Int32 → zS → Prop) : Prop :=
    (v2 = 0 →
    vp_in v1 300 ∧ post (S 41 (z_ix v1)) S) ∧
    (¬ v2 = 0 →
    vp_in v1 300 ∧ post (S 42 (z_ix v1)) S)
def J_M_gap_92 (post : Int32 → zS → Prop) (K13 : Int32 → Int32 → Int32 → Int32 → zS → Prop) (v1 : Int32) (v2 : Int32) (v4 : Int32) (v6 : Int32) (v7 : Int32) (v8 : Int32) (v9 : Int32) (t0 : Int32) (S : zS) : Prop :=
    (v9 < v1 →
    ∀ x116 : Int32, x116 = v8 + 1 → K13 t0 v6 v7 x116 S) ∧
    (¬ v9 < v1 →
    (v6 ≤ v9 →
    ∀ x116 : Int32, x116 = v8 + 1 → K13 t0 v6 v7 x116 S) ∧
    (¬ v6 ≤ v9 →
    ∀ x116 : Int32, x116 = v8 + 1 → K13 t0 v9 v7 x116 S))
def J_M_gap_90 (post : Int32 → zS → Prop) (K13 : Int32 → Int32 → Int32 → Int32 → zS → Prop) (v1 : Int32) (v2 : Int32) (v4 : Int32) (v5 : Int32) (v6 : Int32) (v7 : Int32) (v8 : Int32) (v9 : Int32) (S : zS) : Prop :=
    J_M_gap_92 post K13 v1 v2 v4 v6 v7 v8 v9 v5 S
def J_M_gap_70 (post : Int32 → zS → Prop) (K13 : Int32 → Int32 → Int32 → Int32 → zS → Prop) (v1 : Int32) (v2 : Int32) (v4 : Int32) (v5 : Int32) (v6 : Int32) (v8 : Int32) (v9 : Int32) (v10 : Int32) (t0 : Int32) (S : zS) : Prop :=
    (v1 ≤ v10 →
    J_M_gap_90 post K13 v1 v2 v4 v5 v6 t0 v8 v9 S) ∧
    (¬ v1 ≤ v10 →
    (v10 ≤ v5 →
    J_M_gap_90 post K13 v1 v2 v4 v5 v6 t0 v8 v9 S) ∧
    (¬ v10 ≤ v5 →
    J_M_gap_92 post K13 v1 v2 v4 v6 t0 v8 v9 v10 S))
def J_M_gap_69 (post : Int32 → zS → Prop) (K13 : Int32 → Int32 → Int32 → Int32 → zS → Prop) (v1 : Int32) (v2 : Int32) (v4 : Int32) (v5 : Int32) (v6 : Int32) (v8 : Int32) (v9 : Int32) (v10 : Int32) (S : zS) : Prop :=
    J_M_gap_70 post K13 v1 v2 v4 v5 v6 v8 v9 v10 0 S
def J_M_gap_65 (post : Int32 → zS → Prop) (K13 : Int32 → Int32 → Int32 → Int32 → zS → Prop) (v1 : Int32) (v2 : Int32) (v4 : Int32) (v5 : Int32) (v6 : Int32) (v8 : Int32) (v9 : Int32) (v10 : Int32) (S : zS) : Prop :=
    J_M_gap_70 post K13 v1 v2 v4 v5 v6 v8 v9 v10 1 S
def L_M_gap_13 (post : Int32 → zS → Prop) (K122 : Int32 → Int32 → Int32 → zS → Prop) (v1 : Int32) (v2 : Int32) (v4 : Int32) : Nat → Int32 → Int32 → Int32 → Int32 → zS → Prop
  | 0, _, _, _, _, _ => False
  | n + 1, v5, v6, v7, v8, S =>
    (v4 ≤ v8 →
    K122 v5 v6 v7 S) ∧
    (¬ v4 ≤ v8 →
    vp_in v8 300 ∧ P_M_low (S 44 (z_ix v8)) v2 S (fun r29 S29 =>
    vp_in v8 300 ∧ P_M_high (S29 44 (z_ix v8)) v2 S29 (fun r43 S43 =>
    (v7 = 0 →
    J_M_gap_69 post (L_M_gap_13 post K122 v1 v2 v4 n) v1 v2 v4 v5 v6 v8 r29 r43 S43) ∧
    (¬ v7 = 0 →
    (v1 ≤ r29 →
    J_M_gap_65 post (L_M_gap_13 post K122 v1 v2 v4 n) v1 v2 v4 v5 v6 v8 r29 r43 S43) ∧
    (¬ v1 ≤ r29 →
    (v1 ≤ r43 →
    J_M_gap_69 post (L_M_gap_13 post K122 v1 v2 v4 n) v1 v2 v4 v5 v6 v8 r29 r43 S43) ∧
    (¬ v1 ≤ r43 →
    J_M_gap_65 post (L_M_gap_13 post K122 v1 v2 v4 n) v1 v2 v4 v5 v6 v8 r29 r43 S43))))))
def P_M_gap (v1 : Int32) (v2 : Int32) (v3 : Int32) (v4 : Int32) (S : zS) (post : Int32 → zS → Prop) : Prop :=
    ∃ k13, L_M_gap_13 post (fun v5_13e v6_13e v7_13e S13e =>
    (v7_13e = 0 →
    post (-1) S13e) ∧
    (¬ v7_13e = 0 →
    (v5_13e = (-1) →
    post (-1) S13e) ∧
    (¬ v5_13e = (-1) →
    (v6_13e = 24 →
    post (-1) S13e) ∧
    (¬ v6_13e = 24 →
    post ((v6_13e - v5_13e) - 1) S13e)))) v1 v2 v4 k13 (-1) 24 1 v3 S
def P_M_swap (v1 : Int32) (v2 : Int32) (S : zS) (post : zS → Prop) : Prop :=
    vp_in v1 300 ∧ ∀ x6 : Int32, x6 = (S 44 (z_ix v1)) → vp_in v2 300 ∧ vp_in v1 300 ∧ ∀ S18 : zS, S18 = z_su S 44 (z_ix v1) (S 44 (z_ix v2)) → vp_in v2 300 ∧ ∀ S25 : zS, S25 = z_su S18 44 (z_ix v2) x6 → post S25
def P_M_isBefore (v1 : Int32) (v2 : Int32) (S : zS) (post : Int32 → zS → Prop) : Prop :=
    vp_in v1 300 ∧ vp_in v2 300 ∧ ((S 40 (z_ix v1)) = (S 40 (z_ix v2)) →
    vp_in v1 300 ∧ vp_in v2 300 ∧ ((S 39 (z_ix v1)) = (S 39 (z_ix v2)) →
    (v2 ≤ v1 →
    post 0 S) ∧
    (¬ v2 ≤ v1 →
    post 1 S)) ∧
    (¬ (S 39 (z_ix v1)) = (S 39 (z_ix v2)) →
    vp_in v1 300 ∧ vp_in v2 300 ∧ ((S 39 (z_ix v2)) ≤ (S 39 (z_ix v1)) →
    post 0 S) ∧
    (¬ (S 39 (z_ix v2)) ≤ (S 39 (z_ix v1)) →
    post 1 S))) ∧
    (¬ (S 40 (z_ix v1)) = (S 40 (z_ix v2)) →
    vp_in v1 300 ∧ vp_in v2 300 ∧ ((S 40 (z_ix v2)) ≤ (S 40 (z_ix v1)) →
    post 0 S) ∧
    (¬ (S 40 (z_ix v2)) ≤ (S 40 (z_ix v1)) →
    post 1 S))
def L_M_sort_10 (post : zS → Prop) (K55 : zS → Prop) (v1 : Int32) (v2 : Int32) (v3 : Int32) : Nat → Int32 → zS → Prop
  | 0, _, _ => False
  | n + 1, v4, S =>
    (v4 ≤ v1 →
    K55 S) ∧
    (¬ v4 ≤ v1 →
    vp_in v4 300 ∧ vp_in (v4 - 1) 300 ∧ P_M_isBefore (S 44 (z_ix v4)) (S 44 (z_ix (v4 - 1))) S (fun r33 S33 =>
    (r33 = 0 →
    K55 S33) ∧
    (¬ r33 = 0 →
    P_M_swap v4 (v4 - 1) S33 (fun S46 =>
    ∀ x49 : Int32, x49 = v4 + (-1) → L_M_sort_10 post K55 v1 v2 v3 n x49 S46))))
def L_M_sort_2 (post : zS → Prop) (v1 : Int32) (v2 : Int32) : Nat → Int32 → zS → Prop
  | 0, _, _ => False
  | n + 1, v3, S =>
    (v2 ≤ v3 →
    post S) ∧
    (¬ v2 ≤ v3 →
    ∃ k10, L_M_sort_10 post (fun S10e =>
    ∀ x55 : Int32, x55 = v3 + 1 → L_M_sort_2 post v1 v2 n x55 S10e) v1 v2 v3 k10 v3 S)
def P_M_sort (v1 : Int32) (v2 : Int32) (S : zS) (post : zS → Prop) : Prop :=
    ∃ k2, L_M_sort_2 post v1 v2 k2 v1 S
def J_M_parts_30 (post : Int32 → zS → Prop) (K11 : Int32 → Int32 → Int32 → Int32 → zS → Prop) (v1 : Int32) (v2 : Int32) (v3 : Int32) (v4 : Int32) (v5 : Int32) (v6 : Int32) (t0 : Int32) (S : zS) : Prop :=
    P_M_gap (v6 - v6 / 24 * 24) t0 v1 v2 S (fun r42 S42 =>
    (r42 ≤ v3 →
    ∀ x67 : Int32, x67 = v6 + 1 → K11 v3 v4 v5 x67 S42) ∧
    (¬ r42 ≤ v3 →
    ∀ x61 : Int32, x61 = (v6 - v6 / 24 * 24) → ∀ x67 : Int32, x67 = v6 + 1 → K11 r42 x61 t0 x67 S42))
def L_M_parts_11 (post : Int32 → zS → Prop) (K73 : Int32 → Int32 → Int32 → zS → Prop) (v1 : Int32) (v2 : Int32) : Nat → Int32 → Int32 → Int32 → Int32 → zS → Prop
  | 0, _, _, _, _, _ => False
  | n + 1, v3, v4, v5, v6, S =>
    (48 ≤ v6 →
    K73 v3 v4 v5 S) ∧
    (¬ 48 ≤ v6 →
    (v6 < 24 →
    J_M_parts_30 post (L_M_parts_11 post K73 v1 v2 n) v1 v2 v3 v4 v5 v6 0 S) ∧
    (¬ v6 < 24 →
    J_M_parts_30 post (L_M_parts_11 post K73 v1 v2 n) v1 v2 v3 v4 v5 v6 1 S))
def L_M_parts_86 (post : Int32 → zS → Prop) (v2 : Int32) (v4 : Int32) (v5 : Int32) : Nat → Int32 → Int32 → zS → Prop
  | 0, _, _, _ => False
  | n + 1, v6, v7, S =>
    (v2 ≤ v7 →
    post v6 S) ∧
    (¬ v2 ≤ v7 →
    vp_in v7 300 ∧ P_M_high (S 44 (z_ix v7)) v5 S (fun r102 S102 =>
    (v4 ≤ r102 →
    ∀ x121 : Int32, x121 = v7 + 1 → L_M_parts_86 post v2 v4 v5 n v6 x121 S102) ∧
    (¬ v4 ≤ r102 →
    P_M_swap v7 v6 S102 (fun S115 =>
    ∀ x118 : Int32, x118 = v6 + 1 → ∀ x121 : Int32, x121 = v7 + 1 → L_M_parts_86 post v2 v4 v5 n x118 x121 S115))))
def P_M_parts (v1 : Int32) (v2 : Int32) (S : zS) (post : Int32 → zS → Prop) : Prop :=
    ∃ k11, L_M_parts_11 post (fun v3_11e v4_11e v5_11e S11e =>
    (¬ v3_11e = (-1) →
    ∃ k86, L_M_parts_86 post v2 v4_11e v5_11e k86 v1 v1 S11e) ∧
    (v3_11e = (-1) →
    post v2 S11e)) v1 v2 k11 (-1) 0 0 0 S
def L_M_takeOrder_2 (post : zS → Prop) (K23 : zS → Prop) : Nat → Int32 → zS → Prop
  | 0, _, _ => False
  | n + 1, v1, S =>
    ((S 31 12) ≤ v1 →
    K23 S) ∧
    (¬ (S 31 12) ≤ v1 →
    vp_in v1 300 ∧ ∀ S16 : zS, S16 = z_su S 44 (z_ix v1) v1 → ∀ x17 : Int32, x17 = v1 + 1 → L_M_takeOrder_2 post K23 n x17 S16)
def J_M_takeOrder_80 (post : zS → Prop) (K42 : Int32 → zS → Prop) (v1 : Int32) (v2 : Int32) (v3 : Int32) (t0 : Int32) (S : zS) : Prop :=
    (¬ t0 = v3 →
    vp_in v1 300 ∧ ∀ S103 : zS, S103 = z_su S 48 (z_ix v1) v2 → vp_in v1 300 ∧ ∀ S111 : zS, S111 = z_su S103 49 (z_ix v1) t0 → vp_in (v1 + 1) 300 ∧ ∀ S121 : zS, S121 = z_su S111 48 (z_ix (v1 + 1)) t0 → vp_in (v1 + 1) 300 ∧ ∀ S130 : zS, S130 = z_su S121 49 (z_ix (v1 + 1)) v3 → ∀ x134 : Int32, x134 = (v1 + 2) → K42 x134 S130) ∧
    (t0 = v3 →
    P_M_sort v2 v3 S (fun S91 =>
    K42 v1 S91))
def L_M_takeOrder_42 (post : zS → Prop) : Nat → Int32 → zS → Prop
  | 0, _, _ => False
  | n + 1, v1, S =>
    (v1 ≤ 0 →
    post S) ∧
    (¬ v1 ≤ 0 →
    ∀ x46 : Int32, x46 = v1 + (-1) → vp_in x46 300 ∧ ∀ x55 : Int32, x55 = (S 48 (z_ix x46)) → vp_in x46 300 ∧ ∀ x62 : Int32, x62 = (S 49 (z_ix x46)) → ((x62 - x55) ≤ 1 →
    J_M_takeOrder_80 post (L_M_takeOrder_42 post n) x46 x55 x62 x62 S) ∧
    (¬ (x62 - x55) ≤ 1 →
    P_M_parts x55 x62 S (fun r73 S73 =>
    J_M_takeOrder_80 post (L_M_takeOrder_42 post n) x46 x55 x62 r73 S73)))
def P_M_takeOrder (S : zS) (post : zS → Prop) : Prop :=
    ∃ k2, L_M_takeOrder_2 post (fun S2e =>
    vp_in 0 300 ∧ ∀ S31 : zS, S31 = z_su S2e 48 (z_ix 0) 0 → vp_in 0 300 ∧ ∀ S41 : zS, S41 = z_su S31 49 (z_ix 0) (S31 31 12) → ∃ k42, L_M_takeOrder_42 post k42 1 S41) k2 0 S
def J_M_run_26 (post : Int32 → zS → Prop) (v1 : Int32) (v2 : Int32) (t0 : Int32) (S : zS) : Prop :=
    P_M_goes t0 1 1 S (fun r28 S28 =>
    (¬ r28 = 0 →
    P_M_takeInk v1 v2 S28 (fun S39 =>
    P_M_takeParts S39 (fun S43 =>
    P_M_takeCovers S43 (fun S47 =>
    P_M_takeStrips S47 (fun S51 =>
    P_M_takeCells S51 (fun S55 =>
    P_M_takeOrder S55 (fun S59 =>
    ∀ S64 : zS, S64 = z_su S59 31 5 1 → post (S64 31 12) S64))))))) ∧
    (r28 = 0 →
    post 0 S28))
def J_M_run_25 (post : Int32 → zS → Prop) (v1 : Int32) (v2 : Int32) (S : zS) : Prop :=
    J_M_run_26 post v1 v2 0 S
def P_M_run (v1 : Int32) (v2 : Int32) (S : zS) (post : Int32 → zS → Prop) : Prop :=
    P_M_in v1 0 24 S (fun r5 S5 =>
    (r5 = 0 →
    J_M_run_25 post v1 v2 S5) ∧
    (¬ r5 = 0 →
    P_M_in v2 0 24 S5 (fun r15 S15 =>
    (r15 = 0 →
    J_M_run_25 post v1 v2 S15) ∧
    (¬ r15 = 0 →
    J_M_run_26 post v1 v2 1 S15))))
def J_M_lines_70 (post : Int32 → zS → Prop) (K12 : Int32 → Int32 → Int32 → zS → Prop) (v1 : Int32) (v4 : Int32) (v5 : Int32) (t0 : Int32) (S : zS) : Prop :=
    ∀ x74 : Int32, x74 = v4 + 1 → K12 t0 v5 x74 S
def J_M_lines_69 (post : Int32 → zS → Prop) (K12 : Int32 → Int32 → Int32 → zS → Prop) (v1 : Int32) (v2 : Int32) (v4 : Int32) (v5 : Int32) (S : zS) : Prop :=
    J_M_lines_70 post K12 v1 v4 v5 v2 S
def J_M_lines_52 (post : Int32 → zS → Prop) (K12 : Int32 → Int32 → Int32 → zS → Prop) (v1 : Int32) (v2 : Int32) (v3 : Int32) (v4 : Int32) (t0 : Int32) (S : zS) : Prop :=
    (t0 = 0 →
    J_M_lines_69 post K12 v1 v2 v4 t0 S) ∧
    (¬ t0 = 0 →
    (¬ v3 = 0 →
    J_M_lines_69 post K12 v1 v2 v4 t0 S) ∧
    (v3 = 0 →
    J_M_lines_70 post K12 v1 v4 t0 (v2 + 1) S))
def L_M_lines_12 (post : Int32 → zS → Prop) (v1 : Int32) : Nat → Int32 → Int32 → Int32 → zS → Prop
  | 0, _, _, _, _ => False
  | n + 1, v2, v3, v4, S =>
    vp_in v1 300 ∧ ((S 42 (z_ix v1)) < v4 →
    post v2 S) ∧
    (¬ (S 42 (z_ix v1)) < v4 →
    vp_in v1 300 ∧ vp_in v1 300 ∧ P_M_cleanIn (S 39 (z_ix v1)) v4 (S 41 (z_ix v1)) v4 v1 S (fun r41 S41 =>
    (r41 ≤ 0 →
    J_M_lines_52 post (L_M_lines_12 post v1 n) v1 v2 v3 v4 0 S41) ∧
    (¬ r41 ≤ 0 →
    J_M_lines_52 post (L_M_lines_12 post v1 n) v1 v2 v3 v4 1 S41)))
def P_M_lines (v1 : Int32) (S : zS) (post : Int32 → zS → Prop) : Prop :=
    vp_in v1 300 ∧ ∀ x10 : Int32, x10 = (S 40 (z_ix v1)) → ∃ k12, L_M_lines_12 post v1 k12 0 0 x10 S
def L_M_inkOf_15 (post : Int32 → zS → Prop) (K54 : Int32 → zS → Prop) (v1 : Int32) (v3 : Int32) : Nat → Int32 → Int32 → zS → Prop
  | 0, _, _, _ => False
  | n + 1, v2, v4, S =>
    ((S 31 1) ≤ v4 →
    K54 v2 S) ∧
    (¬ (S 31 1) ≤ v4 →
    vp_in ((24 * v3) + v4) 576 ∧ (¬ (S 38 (z_ix ((24 * v3) + v4))) = v1 →
    ∀ x48 : Int32, x48 = v4 + 1 → L_M_inkOf_15 post K54 v1 v3 n v2 x48 S) ∧
    ((S 38 (z_ix ((24 * v3) + v4))) = v1 →
    ∀ x47 : Int32, x47 = (v2 + 1) → ∀ x48 : Int32, x48 = v4 + 1 → L_M_inkOf_15 post K54 v1 v3 n x47 x48 S))
def L_M_inkOf_4 (post : Int32 → zS → Prop) (v1 : Int32) : Nat → Int32 → Int32 → zS → Prop
  | 0, _, _, _ => False
  | n + 1, v2, v3, S =>
    ((S 31 2) ≤ v3 →
    post v2 S) ∧
    (¬ (S 31 2) ≤ v3 →
    ∃ k15, L_M_inkOf_15 post (fun v2_15e S15e =>
    ∀ x54 : Int32, x54 = v3 + 1 → L_M_inkOf_4 post v1 n v2_15e x54 S15e) v1 v3 k15 v2 0 S)
def P_M_inkOf (v1 : Int32) (S : zS) (post : Int32 → zS → Prop) : Prop :=
    ∃ k4, L_M_inkOf_4 post v1 k4 0 0 S
def P_M_part (v1 : Int32) (v2 : Int32) (S : zS) (post : Int32 → zS → Prop) : Prop :=
    P_M_in v1 0 ((S 31 12) - 1) S (fun r13 S13 =>
    P_M_in v2 0 7 S13 (fun r20 S20 =>
    P_M_goes (S 31 5) r13 r20 S20 (fun r23 S23 =>
    (¬ r23 = 0 →
    (v2 = 0 →
    vp_in v1 300 ∧ post (S23 39 (z_ix v1)) S23) ∧
    (v2 = 1 →
    vp_in v1 300 ∧ post (S23 40 (z_ix v1)) S23) ∧
    (v2 = 2 →
    vp_in v1 300 ∧ vp_in v1 300 ∧ post (((S23 41 (z_ix v1)) - (S23 39 (z_ix v1))) + 1) S23) ∧
    (v2 = 3 →
    vp_in v1 300 ∧ vp_in v1 300 ∧ post (((S23 42 (z_ix v1)) - (S23 40 (z_ix v1))) + 1) S23) ∧
    (v2 = 4 →
    P_M_cleanIn 0 0 ((S23 31 1) - 1) ((S23 31 2) - 1) v1 S23 (fun r138 S138 =>
    post r138 S138)) ∧
    (v2 = 5 →
    vp_in v1 300 ∧ post (S23 43 (z_ix v1)) S23) ∧
    (v2 = 6 →
    P_M_lines v1 S23 (fun r151 S151 =>
    post r151 S151)) ∧
    (¬ v2 = 0 → ¬ v2 = 1 → ¬ v2 = 2 → ¬ v2 = 3 → ¬ v2 = 4 → ¬ v2 = 5 → ¬ v2 = 6 → 
    P_M_inkOf v1 S23 (fun r157 S157 =>
    post r157 S157))) ∧
    (r23 = 0 →
    post 0 S23))))
def P_M_partOf (v1 : Int32) (v2 : Int32) (S : zS) (post : Int32 → zS → Prop) : Prop :=
    P_M_isSample v1 v2 S (fun r8 S8 =>
    P_M_goes (S 31 5) r8 1 S8 (fun r12 S12 =>
    (r12 = 0 →
    post 0 S12) ∧
    (¬ r12 = 0 →
    vp_in ((24 * v2) + v1) 576 ∧ post (S12 38 (z_ix ((24 * v2) + v1))) S12)))
def L_M_line_109 (post : Int32 → zS → Prop) (K150 : Int32 → zS → Prop) (v1 : Int32) (v3 : Int32) (v5 : Int32) (v6 : Int32) : Nat → Int32 → zS → Prop
  | 0, _, _ => False
  | n + 1, v7, S =>
    vp_in v1 300 ∧ ((S 42 (z_ix v1)) < v7 →
    K150 v7 S) ∧
    (¬ (S 42 (z_ix v1)) < v7 →
    vp_in v1 300 ∧ vp_in v1 300 ∧ P_M_cleanIn (S 39 (z_ix v1)) v7 (S 41 (z_ix v1)) v7 v1 S (fun r138 S138 =>
    (r138 ≤ 0 →
    K150 v7 S138) ∧
    (¬ r138 ≤ 0 →
    ∀ x144 : Int32, x144 = v7 + 1 → L_M_line_109 post K150 v1 v3 v5 v6 n x144 S138)))
def J_M_line_150 (post : Int32 → zS → Prop) (K75 : Int32 → Int32 → zS → Prop) (K155 : Int32 → Int32 → zS → Prop) (v1 : Int32) (v3 : Int32) (v5 : Int32) (v6 : Int32) (v7 : Int32) (S : zS) : Prop :=
    (¬ v5 = 0 →
    ∀ x170 : Int32, x170 = v5 + (-1) → K75 x170 v7 S) ∧
    (v5 = 0 →
    K155 v6 v7 S)
def L_M_line_75 (post : Int32 → zS → Prop) (K155 : Int32 → Int32 → zS → Prop) (v1 : Int32) (v3 : Int32) : Nat → Int32 → Int32 → zS → Prop
  | 0, _, _, _ => False
  | n + 1, v5, v6, S =>
    vp_in v1 300 ∧ vp_in v1 300 ∧ P_M_cleanIn (S 39 (z_ix v1)) v6 (S 41 (z_ix v1)) v6 v1 S (fun r93 S93 =>
    (¬ r93 = 0 →
    ∃ k109, L_M_line_109 post (fun v7_109e S109e =>
    J_M_line_150 post (L_M_line_75 post K155 v1 v3 n) K155 v1 v3 v5 v6 v7_109e S109e) v1 v3 v5 v6 k109 v6 S93) ∧
    (r93 = 0 →
    ∀ x99 : Int32, x99 = v6 + 1 → L_M_line_75 post K155 v1 v3 n v5 x99 S93))
def J_M_line_41 (post : Int32 → zS → Prop) (v1 : Int32) (v2 : Int32) (v3 : Int32) (t0 : Int32) (S : zS) : Prop :=
    P_M_in v3 0 1 S (fun r53 S53 =>
    P_M_goes (S 31 5) t0 r53 S53 (fun r56 S56 =>
    (¬ r56 = 0 →
    vp_in v1 300 ∧ ∀ x73 : Int32, x73 = (S56 40 (z_ix v1)) → ∃ k75, L_M_line_75 post (fun v6_75e v7_75e S75e =>
    (¬ v3 = 0 →
    post (v7_75e - v6_75e) S75e) ∧
    (v3 = 0 →
    post v6_75e S75e)) v1 v3 k75 v2 x73 S56) ∧
    (r56 = 0 →
    post 0 S56)))
def J_M_line_40 (post : Int32 → zS → Prop) (v1 : Int32) (v2 : Int32) (v3 : Int32) (S : zS) : Prop :=
    J_M_line_41 post v1 v2 v3 0 S
def P_M_line (v1 : Int32) (v2 : Int32) (v3 : Int32) (S : zS) (post : Int32 → zS → Prop) : Prop :=
    ((S 31 5) = 0 →
    J_M_line_40 post v1 v2 v3 S) ∧
    (¬ (S 31 5) = 0 →
    P_M_in v1 0 ((S 31 12) - 1) S (fun r15 S15 =>
    (r15 = 0 →
    J_M_line_40 post v1 v2 v3 S15) ∧
    (¬ r15 = 0 →
    P_M_lines v1 S15 (fun r25 S25 =>
    P_M_in v2 0 (r25 - 1) S25 (fun r30 S30 =>
    (r30 = 0 →
    J_M_line_40 post v1 v2 v3 S30) ∧
    (¬ r30 = 0 →
    J_M_line_41 post v1 v2 v3 1 S30))))))
def P_M_order (v1 : Int32) (S : zS) (post : Int32 → zS → Prop) : Prop :=
    P_M_in v1 0 ((S 31 12) - 1) S (fun r13 S13 =>
    P_M_goes (S 31 5) r13 1 S13 (fun r17 S17 =>
    (r17 = 0 →
    post 0 S17) ∧
    (¬ r17 = 0 →
    vp_in v1 300 ∧ post (S17 44 (z_ix v1)) S17)))
def P_M_cover (v1 : Int32) (v2 : Int32) (S : zS) (post : Int32 → zS → Prop) : Prop :=
    P_M_in v1 0 ((S 31 19) - 1) S (fun r13 S13 =>
    P_M_in v2 0 3 S13 (fun r19 S19 =>
    P_M_goes (S 31 5) r13 r19 S19 (fun r22 S22 =>
    (r22 = 0 →
    post 0 S22) ∧
    (¬ r22 = 0 →
    vp_in ((4 * v1) + v2) 24 ∧ post (S22 45 (z_ix ((4 * v1) + v2))) S22))))
def P_M_strip (v1 : Int32) (S : zS) (post : Int32 → zS → Prop) : Prop :=
    P_M_in v1 0 ((S 31 1) - 1) S (fun r13 S13 =>
    P_M_goes (S 31 5) r13 1 S13 (fun r17 S17 =>
    (r17 = 0 →
    post 0 S17) ∧
    (¬ r17 = 0 →
    vp_in v1 24 ∧ post (S17 46 (z_ix v1)) S17)))
def J_M_cell_130 (post : Int32 → zS → Prop) (K61 : Int32 → Int32 → Int32 → Int32 → Int32 → Int32 → zS → Prop) (v1 : Int32) (v2 : Int32) (v3 : Int32) (v4 : Int32) (v7 : Int32) (v8 : Int32) (v9 : Int32) (t0 : Int32) (S : zS) : Prop :=
    ∀ x136 : Int32, x136 = v7 + 1 → ∀ x139 : Int32, x139 = v9 + 1 → K61 v3 v4 t0 v8 x136 x139 S
def J_M_cell_114 (post : Int32 → zS → Prop) (K61 : Int32 → Int32 → Int32 → Int32 → Int32 → Int32 → zS → Prop) (v1 : Int32) (v2 : Int32) (v3 : Int32) (v5 : Int32) (v7 : Int32) (v8 : Int32) (v9 : Int32) (t0 : Int32) (S : zS) : Prop :=
    (v5 ≤ v8 →
    J_M_cell_130 post K61 v1 v2 v3 t0 v7 v8 v9 v5 S) ∧
    (¬ v5 ≤ v8 →
    J_M_cell_130 post K61 v1 v2 v3 t0 v7 v8 v9 v8 S)
def J_M_cell_99 (post : Int32 → zS → Prop) (K61 : Int32 → Int32 → Int32 → Int32 → Int32 → Int32 → zS → Prop) (v1 : Int32) (v2 : Int32) (v4 : Int32) (v5 : Int32) (v7 : Int32) (v8 : Int32) (v9 : Int32) (t0 : Int32) (S : zS) : Prop :=
    (v9 ≤ v4 →
    J_M_cell_114 post K61 v1 v2 t0 v5 v7 v8 v9 v4 S) ∧
    (¬ v9 ≤ v4 →
    J_M_cell_114 post K61 v1 v2 t0 v5 v7 v8 v9 v9 S)
def L_M_cell_61 (post : Int32 → zS → Prop) (K145 : Int32 → Int32 → Int32 → Int32 → Int32 → zS → Prop) (v1 : Int32) (v2 : Int32) (v8 : Int32) : Nat → Int32 → Int32 → Int32 → Int32 → Int32 → Int32 → zS → Prop
  | 0, _, _, _, _, _, _, _ => False
  | n + 1, v3, v4, v5, v6, v7, v9, S =>
    ((S 31 1) ≤ v9 →
    K145 v3 v4 v5 v6 v7 S) ∧
    (¬ (S 31 1) ≤ v9 →
    vp_in ((24 * v8) + v9) 576 ∧ (¬ (S 47 (z_ix ((24 * v8) + v9))) = v1 →
    ∀ x139 : Int32, x139 = v9 + 1 → L_M_cell_61 post K145 v1 v2 v8 n v3 v4 v5 v6 v7 x139 S) ∧
    ((S 47 (z_ix ((24 * v8) + v9))) = v1 →
    (v3 ≤ v9 →
    J_M_cell_99 post (L_M_cell_61 post K145 v1 v2 v8 n) v1 v2 v4 v5 v7 v8 v9 v3 S) ∧
    (¬ v3 ≤ v9 →
    J_M_cell_99 post (L_M_cell_61 post K145 v1 v2 v8 n) v1 v2 v4 v5 v7 v8 v9 v9 S)))
def L_M_cell_49 (post : Int32 → zS → Prop) (K151 : Int32 → Int32 → Int32 → Int32 → Int32 → zS → Prop) (v1 : Int32) (v2 : Int32) : Nat → Int32 → Int32 → Int32 → Int32 → Int32 → Int32 → zS → Prop
  | 0, _, _, _, _, _, _, _ => False
  | n + 1, v3, v4, v5, v6, v7, v8, S =>
    ((S 31 2) ≤ v8 →
    K151 v3 v4 v5 v6 v7 S) ∧
    (¬ (S 31 2) ≤ v8 →
    ∃ k61, L_M_cell_61 post (fun v3_61e v4_61e v5_61e v6_61e v7_61e S61e =>
    ∀ x145 : Int32, x145 = v8 + 1 → L_M_cell_49 post K151 v1 v2 n v3_61e v4_61e v5_61e v6_61e v7_61e x145 S61e) v1 v2 v8 k61 v3 v4 v5 v6 v7 0 S)
def P_M_cell (v1 : Int32) (v2 : Int32) (S : zS) (post : Int32 → zS → Prop) : Prop :=
    P_M_in v1 0 ((S 31 23) - 1) S (fun r13 S13 =>
    P_M_in v2 0 4 S13 (fun r19 S19 =>
    P_M_goes (S 31 5) r13 r19 S19 (fun r22 S22 =>
    (¬ r22 = 0 →
    ∃ k49, L_M_cell_49 post (fun v3_49e v4_49e v5_49e v6_49e v7_49e S49e =>
    (¬ v2 = 0 →
    (¬ v2 = 1 →
    (¬ v2 = 2 →
    (¬ v2 = 3 →
    post v7_49e S49e) ∧
    (v2 = 3 →
    post ((v6_49e - v5_49e) + 1) S49e)) ∧
    (v2 = 2 →
    post ((v4_49e - v3_49e) + 1) S49e)) ∧
    (v2 = 1 →
    post v5_49e S49e)) ∧
    (v2 = 0 →
    post v3_49e S49e)) v1 v2 k49 24 0 24 0 0 0 S22) ∧
    (r22 = 0 →
    post 0 S22))))
def P_M_isSpeck (v1 : Int32) (v2 : Int32) (S : zS) (post : Int32 → zS → Prop) : Prop :=
    P_M_isSample v1 v2 S (fun r8 S8 =>
    P_M_goes (S 31 5) r8 1 S8 (fun r12 S12 =>
    (r12 = 0 →
    post 0 S12) ∧
    (¬ r12 = 0 →
    vp_in ((24 * v2) + v1) 576 ∧ ((S12 33 (z_ix ((24 * v2) + v1))) = 0 →
    post 0 S12) ∧
    (¬ (S12 33 (z_ix ((24 * v2) + v1))) = 0 →
    post 1 S12))))
def J_M_told_56 (post : Int32 → zS → Prop) (K24 : Int32 → Int32 → Int32 → zS → Prop) (v1 : Int32) (v3 : Int32) (v4 : Int32) (v5 : Int32) (t0 : Int32) (S : zS) : Prop :=
    ((S 31 5) = 0 →
    ∀ x88 : Int32, x88 = v5 + 1 → K24 t0 v3 x88 S) ∧
    (¬ (S 31 5) = 0 →
    vp_in ((24 * v4) + v5) 576 ∧ ((S 33 (z_ix ((24 * v4) + v5))) = 0 →
    ∀ x88 : Int32, x88 = v5 + 1 → K24 t0 v3 x88 S) ∧
    (¬ (S 33 (z_ix ((24 * v4) + v5))) = 0 →
    ∀ x87 : Int32, x87 = (v3 + 1) → ∀ x88 : Int32, x88 = v5 + 1 → K24 t0 x87 x88 S))
def L_M_told_24 (post : Int32 → zS → Prop) (K94 : Int32 → Int32 → zS → Prop) (v1 : Int32) (v4 : Int32) : Nat → Int32 → Int32 → Int32 → zS → Prop
  | 0, _, _, _, _ => False
  | n + 1, v2, v3, v5, S =>
    ((S 31 1) ≤ v5 →
    K94 v2 v3 S) ∧
    (¬ (S 31 1) ≤ v5 →
    vp_in ((24 * v4) + v5) 576 ∧ ((S 32 (z_ix ((24 * v4) + v5))) = 0 →
    J_M_told_56 post (L_M_told_24 post K94 v1 v4 n) v1 v3 v4 v5 v2 S) ∧
    (¬ (S 32 (z_ix ((24 * v4) + v5))) = 0 →
    J_M_told_56 post (L_M_told_24 post K94 v1 v4 n) v1 v3 v4 v5 (v2 + 1) S))
def L_M_told_12 (post : Int32 → zS → Prop) (K100 : Int32 → Int32 → zS → Prop) (v1 : Int32) : Nat → Int32 → Int32 → Int32 → zS → Prop
  | 0, _, _, _, _ => False
  | n + 1, v2, v3, v4, S =>
    ((S 31 2) ≤ v4 →
    K100 v2 v3 S) ∧
    (¬ (S 31 2) ≤ v4 →
    ∃ k24, L_M_told_24 post (fun v2_24e v3_24e S24e =>
    ∀ x94 : Int32, x94 = v4 + 1 → L_M_told_12 post K100 v1 n v2_24e v3_24e x94 S24e) v1 v4 k24 v2 v3 0 S)
def P_M_told (v1 : Int32) (S : zS) (post : Int32 → zS → Prop) : Prop :=
    ∀ S2 : zS, S2 = z_su S 31 0 0 → ∃ k12, L_M_told_12 post (fun v2_12e v3_12e S12e =>
    (3 ≤ v1 →
    (¬ (S12e 31 5) = 0 →
    (¬ v1 = 3 →
    (¬ v1 = 4 →
    (¬ v1 = 5 →
    (¬ v1 = 6 →
    (¬ v1 = 7 →
    post (-1) S12e) ∧
    (v1 = 7 →
    post v3_12e S12e)) ∧
    (v1 = 6 →
    post (S12e 31 23) S12e)) ∧
    (v1 = 5 →
    post (S12e 31 21) S12e)) ∧
    (v1 = 4 →
    post (S12e 31 19) S12e)) ∧
    (v1 = 3 →
    post (S12e 31 12) S12e)) ∧
    ((S12e 31 5) = 0 →
    post (-1) S12e)) ∧
    (¬ 3 ≤ v1 →
    (¬ v1 = 0 →
    (¬ v1 = 1 →
    (¬ v1 = 2 →
    post (-1) S12e) ∧
    (v1 = 2 →
    post v2_12e S12e)) ∧
    (v1 = 1 →
    post (S12e 31 2) S12e)) ∧
    (v1 = 0 →
    post (S12e 31 1) S12e))) v1 k12 0 0 0 S2
def X_P_mustBeSample (v1 : Int32) (v2 : Int32) (S : zS) (px : Nat → zS → Prop) : Prop :=
    (v1 < 0 →
    px 1 S) ∧
    (¬ v1 < 0 →
    ((S 0 0) ≤ v1 →
    px 1 S) ∧
    (¬ (S 0 0) ≤ v1 →
    (v2 < 0 →
    px 1 S) ∧
    (¬ v2 < 0 →
    (v2 < (S 0 1) →
    False) ∧
    (¬ v2 < (S 0 1) →
    px 1 S))))
def X_P_put (v1 : Int32) (v2 : Int32) (v3 : Int32) (S : zS) (px : Nat → zS → Prop) : Prop :=
    X_P_mustBeSample v1 v2 S px
def X_P_fill (v1 : Int32) (v2 : Int32) (v3 : Int32) (v4 : Int32) (v5 : Int32) (S : zS) (px : Nat → zS → Prop) : Prop :=
    (X_P_mustBeSample v1 v2 S px) ∨
    (P_P_mustBeSample v1 v2 S (fun S3 =>
    (v3 < 1 →
    px 2 S3) ∧
    (¬ v3 < 1 →
    (1 ≤ v4 →
    False) ∧
    (¬ 1 ≤ v4 →
    px 2 S3))))
def X_P_noise (v1 : Int32) (S : zS) (px : Nat → zS → Prop) : Prop :=
    (v1 < 0 →
    px 2 S) ∧
    (¬ v1 < 0 →
    (v1 ≤ 100 →
    False) ∧
    (¬ v1 ≤ 100 →
    px 2 S))
def X_P_run (v1 : Int32) (v2 : Int32) (S : zS) (px : Nat → zS → Prop) : Prop :=
    (v1 < 0 →
    px 2 S) ∧
    (¬ v1 < 0 →
    (24 < v1 →
    px 2 S) ∧
    (¬ 24 < v1 →
    (v2 < 0 →
    px 2 S) ∧
    (¬ v2 < 0 →
    (v2 ≤ 24 →
    False) ∧
    (¬ v2 ≤ 24 →
    px 2 S))))
def X_P_mustBeParted (S : zS) (px : Nat → zS → Prop) : Prop :=
    (¬ (S 0 14) = 0 →
    False) ∧
    ((S 0 14) = 0 →
    px 0 S)
def X_P_mustBeBelow (v0 : Int32) (v1 : Int32) (S : zS) (px : Nat → zS → Prop) : Prop :=
    (v0 < 0 →
    px 1 S) ∧
    (¬ v0 < 0 →
    (v0 < v1 →
    False) ∧
    (¬ v0 < v1 →
    px 1 S))
def X_P_mustBeTold (v0 : Int32) (v1 : Int32) (S : zS) (px : Nat → zS → Prop) : Prop :=
    (v0 < 0 →
    px 2 S) ∧
    (¬ v0 < 0 →
    (v0 < v1 →
    False) ∧
    (¬ v0 < v1 →
    px 2 S))
def X_P_part (v1 : Int32) (v2 : Int32) (S : zS) (px : Nat → zS → Prop) : Prop :=
    (X_P_mustBeParted S px) ∨
    (P_P_mustBeParted S (fun S1 =>
    (X_P_mustBeBelow v1 (S1 5 6) S1 px) ∨
    (P_P_mustBeBelow v1 (S1 5 6) S1 (fun S12 =>
    X_P_mustBeTold v2 8 S12 px))))
def X_P_partOf (v1 : Int32) (v2 : Int32) (S : zS) (px : Nat → zS → Prop) : Prop :=
    (X_P_mustBeParted S px) ∨
    (P_P_mustBeParted S (fun S1 =>
    X_P_mustBeSample v1 v2 S1 px))
def X_P_line (v1 : Int32) (v2 : Int32) (v3 : Int32) (S : zS) (px : Nat → zS → Prop) : Prop :=
    (X_P_mustBeParted S px) ∨
    (P_P_mustBeParted S (fun S1 =>
    (X_P_mustBeBelow v1 (S1 5 6) S1 px) ∨
    (P_P_mustBeBelow v1 (S1 5 6) S1 (fun S12 =>
    P_P_countLines v1 S12 (fun r18 S18 =>
    (X_P_mustBeBelow v2 r18 S18 px) ∨
    (P_P_mustBeBelow v2 r18 S18 (fun S21 =>
    X_P_mustBeTold v3 2 S21 px)))))))
def X_P_order (v1 : Int32) (S : zS) (px : Nat → zS → Prop) : Prop :=
    (X_P_mustBeParted S px) ∨
    (P_P_mustBeParted S (fun S1 =>
    X_P_mustBeBelow v1 (S1 5 6) S1 px))
def X_P_cover (v1 : Int32) (v2 : Int32) (S : zS) (px : Nat → zS → Prop) : Prop :=
    (X_P_mustBeParted S px) ∨
    (P_P_mustBeParted S (fun S1 =>
    (X_P_mustBeBelow v1 (S1 21 4) S1 px) ∨
    (P_P_mustBeBelow v1 (S1 21 4) S1 (fun S12 =>
    X_P_mustBeTold v2 4 S12 px))))
def X_P_strip (v1 : Int32) (S : zS) (px : Nat → zS → Prop) : Prop :=
    (X_P_mustBeParted S px) ∨
    (P_P_mustBeParted S (fun S1 =>
    X_P_mustBeBelow v1 (S1 0 0) S1 px))
def X_P_cell (v1 : Int32) (v2 : Int32) (S : zS) (px : Nat → zS → Prop) : Prop :=
    (X_P_mustBeParted S px) ∨
    (P_P_mustBeParted S (fun S1 =>
    (X_P_mustBeBelow v1 (S1 13 6) S1 px) ∨
    (P_P_mustBeBelow v1 (S1 13 6) S1 (fun S12 =>
    X_P_mustBeTold v2 5 S12 px))))
def X_P_isSpeck (v1 : Int32) (v2 : Int32) (S : zS) (px : Nat → zS → Prop) : Prop :=
    (X_P_mustBeParted S px) ∨
    (P_P_mustBeParted S (fun S1 =>
    X_P_mustBeSample v1 v2 S1 px))
def J_L_put_18 (post : Int32 → zS → Prop) (t0 : Int32) (t1 : Int32) (S : zS) : Prop :=
    vp_in t1 1 ∧ ∀ S18 : zS, S18 = z_su S 50 (z_ix t1) t0 → post 0 S18
def P_L_put (v1 : Int32) (v2 : Int32) (v3 : Int32) (S : zS) (post : Int32 → zS → Prop) : Prop :=
    (X_P_put v1 v2 v3 S (fun cd S7x => (cd = 1 ∧ post 1 S7x))) ∨
    (P_P_put v1 v2 v3 S (fun r7 S7 =>
    (r7 = 0 →
    J_L_put_18 post 0 0 S7) ∧
    (¬ r7 = 0 →
    J_L_put_18 post 1 0 S7)))
def P_L_fill (v1 : Int32) (v2 : Int32) (v3 : Int32) (v4 : Int32) (v5 : Int32) (S : zS) (post : Int32 → zS → Prop) : Prop :=
    (X_P_fill v1 v2 v3 v4 v5 S (fun cd S11x => (cd = 1 ∧ post 1 S11x) ∨ (cd = 2 ∧ post 2 S11x))) ∨
    (P_P_fill v1 v2 v3 v4 v5 S (fun r11 S11 =>
    vp_in 0 1 ∧ ∀ S15 : zS, S15 = z_su S11 50 (z_ix 0) r11 → post 0 S15))
def P_L_noise (v1 : Int32) (S : zS) (post : Int32 → zS → Prop) : Prop :=
    (X_P_noise v1 S (fun cd S4x => (cd = 2 ∧ post 1 S4x))) ∨
    (P_P_noise v1 S (fun r4 S4 =>
    vp_in 0 1 ∧ ∀ S8 : zS, S8 = z_su S4 50 (z_ix 0) r4 → post 0 S8))
def P_L_run (v1 : Int32) (v2 : Int32) (S : zS) (post : Int32 → zS → Prop) : Prop :=
    (X_P_run v1 v2 S (fun cd S5x => (cd = 2 ∧ post 1 S5x))) ∨
    (P_P_run v1 v2 S (fun r5 S5 =>
    vp_in 0 1 ∧ ∀ S9 : zS, S9 = z_su S5 50 (z_ix 0) r5 → post 0 S9))
def P_L_part (v1 : Int32) (v2 : Int32) (S : zS) (post : Int32 → zS → Prop) : Prop :=
    (X_P_part v1 v2 S (fun cd S5x => (cd = 0 ∧ post 1 S5x) ∨ (cd = 1 ∧ post 2 S5x) ∨ (cd = 2 ∧ post 3 S5x))) ∨
    (P_P_part v1 v2 S (fun r5 S5 =>
    vp_in 0 1 ∧ ∀ S9 : zS, S9 = z_su S5 50 (z_ix 0) r5 → post 0 S9))
def P_L_partOf (v1 : Int32) (v2 : Int32) (S : zS) (post : Int32 → zS → Prop) : Prop :=
    (X_P_partOf v1 v2 S (fun cd S5x => (cd = 0 ∧ post 1 S5x) ∨ (cd = 1 ∧ post 2 S5x))) ∨
    (P_P_partOf v1 v2 S (fun r5 S5 =>
    vp_in 0 1 ∧ ∀ S9 : zS, S9 = z_su S5 50 (z_ix 0) r5 → post 0 S9))
def P_L_line (v1 : Int32) (v2 : Int32) (v3 : Int32) (S : zS) (post : Int32 → zS → Prop) : Prop :=
    (X_P_line v1 v2 v3 S (fun cd S7x => (cd = 0 ∧ post 1 S7x) ∨ (cd = 1 ∧ post 2 S7x) ∨ (cd = 2 ∧ post 3 S7x))) ∨
    (P_P_line v1 v2 v3 S (fun r7 S7 =>
    vp_in 0 1 ∧ ∀ S11 : zS, S11 = z_su S7 50 (z_ix 0) r7 → post 0 S11))
def P_L_order (v1 : Int32) (S : zS) (post : Int32 → zS → Prop) : Prop :=
    (X_P_order v1 S (fun cd S4x => (cd = 0 ∧ post 1 S4x) ∨ (cd = 1 ∧ post 2 S4x))) ∨
    (P_P_order v1 S (fun r4 S4 =>
    vp_in 0 1 ∧ ∀ S8 : zS, S8 = z_su S4 50 (z_ix 0) r4 → post 0 S8))
def P_L_cover (v1 : Int32) (v2 : Int32) (S : zS) (post : Int32 → zS → Prop) : Prop :=
    (X_P_cover v1 v2 S (fun cd S5x => (cd = 0 ∧ post 1 S5x) ∨ (cd = 1 ∧ post 2 S5x) ∨ (cd = 2 ∧ post 3 S5x))) ∨
    (P_P_cover v1 v2 S (fun r5 S5 =>
    vp_in 0 1 ∧ ∀ S9 : zS, S9 = z_su S5 50 (z_ix 0) r5 → post 0 S9))
def P_L_strip (v1 : Int32) (S : zS) (post : Int32 → zS → Prop) : Prop :=
    (X_P_strip v1 S (fun cd S4x => (cd = 0 ∧ post 1 S4x) ∨ (cd = 1 ∧ post 2 S4x))) ∨
    (P_P_strip v1 S (fun r4 S4 =>
    vp_in 0 1 ∧ ∀ S8 : zS, S8 = z_su S4 50 (z_ix 0) r4 → post 0 S8))
def P_L_cell2 (v1 : Int32) (v2 : Int32) (S : zS) (post : Int32 → zS → Prop) : Prop :=
    (X_P_cell v1 v2 S (fun cd S5x => (cd = 0 ∧ post 1 S5x) ∨ (cd = 1 ∧ post 2 S5x) ∨ (cd = 2 ∧ post 3 S5x))) ∨
    (P_P_cell v1 v2 S (fun r5 S5 =>
    vp_in 0 1 ∧ ∀ S9 : zS, S9 = z_su S5 50 (z_ix 0) r5 → post 0 S9))
def J_L_isSpeck_16 (post : Int32 → zS → Prop) (t0 : Int32) (t1 : Int32) (S : zS) : Prop :=
    vp_in t1 1 ∧ ∀ S16 : zS, S16 = z_su S 50 (z_ix t1) t0 → post 0 S16
def P_L_isSpeck (v1 : Int32) (v2 : Int32) (S : zS) (post : Int32 → zS → Prop) : Prop :=
    (X_P_isSpeck v1 v2 S (fun cd S5x => (cd = 0 ∧ post 1 S5x) ∨ (cd = 1 ∧ post 2 S5x))) ∨
    (P_P_isSpeck v1 v2 S (fun r5 S5 =>
    (r5 = 0 →
    J_L_isSpeck_16 post 0 0 S5) ∧
    (¬ r5 = 0 →
    J_L_isSpeck_16 post 1 0 S5)))
def J_L_law_232 (L : Nat) (xs : Nat → Int32) (post : Int32 → zS → Prop) (K43 : Int32 → zS → Prop) (v4 : Int32) (S : zS) : Prop :=
    ∀ x1054 : Int32, x1054 = v4 + 6 → K43 x1054 S
def J_L_law_226 (L : Nat) (xs : Nat → Int32) (post : Int32 → zS → Prop) (K43 : Int32 → zS → Prop) (v4 : Int32) (t0 : Int32) (t1 : Int32) (S : zS) : Prop :=
    (t1 = t0 →
    J_L_law_232 L xs post K43 v4 S) ∧
    (¬ t1 = t0 →
    post 0 S)
def J_L_law_192 (L : Nat) (xs : Nat → Int32) (post : Int32 → zS → Prop) (K43 : Int32 → zS → Prop) (v4 : Int32) (v5 : Int32) (t0 : Int32) (t1 : Int32) (t2 : Int32) (S : zS) : Prop :=
    P_M_put t2 t1 t0 S (fun r192 S192 =>
    P_M_thrown S192 (fun r198 S198 =>
    (r198 = v5 →
    (¬ v5 = 0 →
    J_L_law_232 L xs post K43 v4 S198) ∧
    (v5 = 0 →
    vp_in 0 1 ∧ (r192 = 0 →
    J_L_law_226 L xs post K43 v4 0 (S198 50 (z_ix 0)) S198) ∧
    (¬ r192 = 0 →
    J_L_law_226 L xs post K43 v4 1 (S198 50 (z_ix 0)) S198))) ∧
    (¬ r198 = v5 →
    post 0 S198)))
def J_L_law_159 (L : Nat) (xs : Nat → Int32) (post : Int32 → zS → Prop) (K43 : Int32 → zS → Prop) (v4 : Int32) (t0 : Int32) (t1 : Int32) (t2 : Int32) (S : zS) : Prop :=
    P_L_put t2 t1 t0 S (fun r160 S160 =>
    vp_in (v4 + 1) L ∧ vp_in (v4 + 2) L ∧ vp_in (v4 + 3) L ∧ ((xs (z_ix (v4 + 3))) = 0 →
    J_L_law_192 L xs post K43 v4 r160 0 (xs (z_ix (v4 + 2))) (xs (z_ix (v4 + 1))) S160) ∧
    (¬ (xs (z_ix (v4 + 3))) = 0 →
    J_L_law_192 L xs post K43 v4 r160 1 (xs (z_ix (v4 + 2))) (xs (z_ix (v4 + 1))) S160))
def J_L_law_352 (L : Nat) (xs : Nat → Int32) (post : Int32 → zS → Prop) (K43 : Int32 → zS → Prop) (v4 : Int32) (S : zS) : Prop :=
    ∀ x1054 : Int32, x1054 = v4 + 6 → K43 x1054 S
def J_L_law_319 (L : Nat) (xs : Nat → Int32) (post : Int32 → zS → Prop) (K43 : Int32 → zS → Prop) (v4 : Int32) (v5 : Int32) (t0 : Int32) (t1 : Int32) (t2 : Int32) (t3 : Int32) (t4 : Int32) (S : zS) : Prop :=
    P_M_fill t4 t3 t2 t1 t0 S (fun r319 S319 =>
    P_M_thrown S319 (fun r325 S325 =>
    (r325 = v5 →
    (¬ v5 = 0 →
    J_L_law_352 L xs post K43 v4 S325) ∧
    (v5 = 0 →
    vp_in 0 1 ∧ ((S325 50 (z_ix 0)) = r319 →
    J_L_law_352 L xs post K43 v4 S325) ∧
    (¬ (S325 50 (z_ix 0)) = r319 →
    post 0 S325))) ∧
    (¬ r325 = v5 →
    post 0 S325)))
def J_L_law_274 (L : Nat) (xs : Nat → Int32) (post : Int32 → zS → Prop) (K43 : Int32 → zS → Prop) (v4 : Int32) (t0 : Int32) (t1 : Int32) (t2 : Int32) (t3 : Int32) (t4 : Int32) (S : zS) : Prop :=
    P_L_fill t4 t3 t2 t1 t0 S (fun r275 S275 =>
    vp_in (v4 + 1) L ∧ vp_in (v4 + 2) L ∧ vp_in (v4 + 3) L ∧ vp_in (v4 + 4) L ∧ vp_in (v4 + 5) L ∧ ((xs (z_ix (v4 + 5))) = 0 →
    J_L_law_319 L xs post K43 v4 r275 0 (xs (z_ix (v4 + 4))) (xs (z_ix (v4 + 3))) (xs (z_ix (v4 + 2))) (xs (z_ix (v4 + 1))) S275) ∧
    (¬ (xs (z_ix (v4 + 5))) = 0 →
    J_L_law_319 L xs post K43 v4 r275 1 (xs (z_ix (v4 + 4))) (xs (z_ix (v4 + 3))) (xs (z_ix (v4 + 2))) (xs (z_ix (v4 + 1))) S275))
def J_L_law_408 (L : Nat) (xs : Nat → Int32) (post : Int32 → zS → Prop) (K43 : Int32 → zS → Prop) (v4 : Int32) (S : zS) : Prop :=
    ∀ x1054 : Int32, x1054 = v4 + 6 → K43 x1054 S
def J_L_law_476 (L : Nat) (xs : Nat → Int32) (post : Int32 → zS → Prop) (K43 : Int32 → zS → Prop) (v4 : Int32) (S : zS) : Prop :=
    ∀ x1054 : Int32, x1054 = v4 + 6 → K43 x1054 S
def J_L_law_544 (L : Nat) (xs : Nat → Int32) (post : Int32 → zS → Prop) (K43 : Int32 → zS → Prop) (v4 : Int32) (S : zS) : Prop :=
    ∀ x1054 : Int32, x1054 = v4 + 6 → K43 x1054 S
def J_L_law_612 (L : Nat) (xs : Nat → Int32) (post : Int32 → zS → Prop) (K43 : Int32 → zS → Prop) (v4 : Int32) (S : zS) : Prop :=
    ∀ x1054 : Int32, x1054 = v4 + 6 → K43 x1054 S
def J_L_law_692 (L : Nat) (xs : Nat → Int32) (post : Int32 → zS → Prop) (K43 : Int32 → zS → Prop) (v4 : Int32) (S : zS) : Prop :=
    ∀ x1054 : Int32, x1054 = v4 + 6 → K43 x1054 S
def J_L_law_748 (L : Nat) (xs : Nat → Int32) (post : Int32 → zS → Prop) (K43 : Int32 → zS → Prop) (v4 : Int32) (S : zS) : Prop :=
    ∀ x1054 : Int32, x1054 = v4 + 6 → K43 x1054 S
def J_L_law_816 (L : Nat) (xs : Nat → Int32) (post : Int32 → zS → Prop) (K43 : Int32 → zS → Prop) (v4 : Int32) (S : zS) : Prop :=
    ∀ x1054 : Int32, x1054 = v4 + 6 → K43 x1054 S
def J_L_law_872 (L : Nat) (xs : Nat → Int32) (post : Int32 → zS → Prop) (K43 : Int32 → zS → Prop) (v4 : Int32) (S : zS) : Prop :=
    ∀ x1054 : Int32, x1054 = v4 + 6 → K43 x1054 S
def J_L_law_940 (L : Nat) (xs : Nat → Int32) (post : Int32 → zS → Prop) (K43 : Int32 → zS → Prop) (v4 : Int32) (S : zS) : Prop :=
    ∀ x1054 : Int32, x1054 = v4 + 6 → K43 x1054 S
def J_L_law_1015 (L : Nat) (xs : Nat → Int32) (post : Int32 → zS → Prop) (K43 : Int32 → zS → Prop) (v4 : Int32) (S : zS) : Prop :=
    ∀ x1054 : Int32, x1054 = v4 + 6 → K43 x1054 S
def J_L_law_1009 (L : Nat) (xs : Nat → Int32) (post : Int32 → zS → Prop) (K43 : Int32 → zS → Prop) (v4 : Int32) (t0 : Int32) (t1 : Int32) (S : zS) : Prop :=
    (t1 = t0 →
    J_L_law_1015 L xs post K43 v4 S) ∧
    (¬ t1 = t0 →
    post 0 S)
def L_L_law_43 (L : Nat) (xs : Nat → Int32) (post : Int32 → zS → Prop) : Nat → Int32 → zS → Prop
  | 0, _, _ => False
  | n + 1, v4, S =>
    (((nI L) - 6) < v4 →
    post 1 S) ∧
    (¬ ((nI L) - 6) < v4 →
    vp_in v4 L ∧ (((xs (z_ix v4)) &&& 15) = 0 →
    vp_in (v4 + 1) L ∧ vp_in (v4 + 2) L ∧ vp_in (v4 + 3) L ∧ ((xs (z_ix (v4 + 3))) = 0 →
    J_L_law_159 L xs post (L_L_law_43 L xs post n) v4 0 (xs (z_ix (v4 + 2))) (xs (z_ix (v4 + 1))) S) ∧
    (¬ (xs (z_ix (v4 + 3))) = 0 →
    J_L_law_159 L xs post (L_L_law_43 L xs post n) v4 1 (xs (z_ix (v4 + 2))) (xs (z_ix (v4 + 1))) S)) ∧
    (((xs (z_ix v4)) &&& 15) = 1 →
    vp_in (v4 + 1) L ∧ vp_in (v4 + 2) L ∧ vp_in (v4 + 3) L ∧ vp_in (v4 + 4) L ∧ vp_in (v4 + 5) L ∧ ((xs (z_ix (v4 + 5))) = 0 →
    J_L_law_274 L xs post (L_L_law_43 L xs post n) v4 0 (xs (z_ix (v4 + 4))) (xs (z_ix (v4 + 3))) (xs (z_ix (v4 + 2))) (xs (z_ix (v4 + 1))) S) ∧
    (¬ (xs (z_ix (v4 + 5))) = 0 →
    J_L_law_274 L xs post (L_L_law_43 L xs post n) v4 1 (xs (z_ix (v4 + 4))) (xs (z_ix (v4 + 3))) (xs (z_ix (v4 + 2))) (xs (z_ix (v4 + 1))) S)) ∧
    (((xs (z_ix v4)) &&& 15) = 2 →
    vp_in (v4 + 1) L ∧ P_L_noise (xs (z_ix (v4 + 1))) S (fun r363 S363 =>
    vp_in (v4 + 1) L ∧ P_M_noise (xs (z_ix (v4 + 1))) S363 (fun r375 S375 =>
    P_M_thrown S375 (fun r381 S381 =>
    (r381 = r363 →
    (¬ r363 = 0 →
    J_L_law_408 L xs post (L_L_law_43 L xs post n) v4 S381) ∧
    (r363 = 0 →
    vp_in 0 1 ∧ ((S381 50 (z_ix 0)) = r375 →
    J_L_law_408 L xs post (L_L_law_43 L xs post n) v4 S381) ∧
    (¬ (S381 50 (z_ix 0)) = r375 →
    post 0 S381))) ∧
    (¬ r381 = r363 →
    post 0 S381))))) ∧
    (((xs (z_ix v4)) &&& 15) = 3 →
    vp_in (v4 + 1) L ∧ vp_in (v4 + 2) L ∧ P_L_run (xs (z_ix (v4 + 1))) (xs (z_ix (v4 + 2))) S (fun r425 S425 =>
    vp_in (v4 + 1) L ∧ vp_in (v4 + 2) L ∧ P_M_run (xs (z_ix (v4 + 1))) (xs (z_ix (v4 + 2))) S425 (fun r443 S443 =>
    P_M_thrown S443 (fun r449 S449 =>
    (r449 = r425 →
    (¬ r425 = 0 →
    J_L_law_476 L xs post (L_L_law_43 L xs post n) v4 S449) ∧
    (r425 = 0 →
    vp_in 0 1 ∧ ((S449 50 (z_ix 0)) = r443 →
    J_L_law_476 L xs post (L_L_law_43 L xs post n) v4 S449) ∧
    (¬ (S449 50 (z_ix 0)) = r443 →
    post 0 S449))) ∧
    (¬ r449 = r425 →
    post 0 S449))))) ∧
    (((xs (z_ix v4)) &&& 15) = 4 →
    vp_in (v4 + 1) L ∧ vp_in (v4 + 2) L ∧ P_L_part (xs (z_ix (v4 + 1))) (xs (z_ix (v4 + 2))) S (fun r493 S493 =>
    vp_in (v4 + 1) L ∧ vp_in (v4 + 2) L ∧ P_M_part (xs (z_ix (v4 + 1))) (xs (z_ix (v4 + 2))) S493 (fun r511 S511 =>
    P_M_thrown S511 (fun r517 S517 =>
    (r517 = r493 →
    (¬ r493 = 0 →
    J_L_law_544 L xs post (L_L_law_43 L xs post n) v4 S517) ∧
    (r493 = 0 →
    vp_in 0 1 ∧ ((S517 50 (z_ix 0)) = r511 →
    J_L_law_544 L xs post (L_L_law_43 L xs post n) v4 S517) ∧
    (¬ (S517 50 (z_ix 0)) = r511 →
    post 0 S517))) ∧
    (¬ r517 = r493 →
    post 0 S517))))) ∧
    (((xs (z_ix v4)) &&& 15) = 5 →
    vp_in (v4 + 1) L ∧ vp_in (v4 + 2) L ∧ P_L_partOf (xs (z_ix (v4 + 1))) (xs (z_ix (v4 + 2))) S (fun r561 S561 =>
    vp_in (v4 + 1) L ∧ vp_in (v4 + 2) L ∧ P_M_partOf (xs (z_ix (v4 + 1))) (xs (z_ix (v4 + 2))) S561 (fun r579 S579 =>
    P_M_thrown S579 (fun r585 S585 =>
    (r585 = r561 →
    (¬ r561 = 0 →
    J_L_law_612 L xs post (L_L_law_43 L xs post n) v4 S585) ∧
    (r561 = 0 →
    vp_in 0 1 ∧ ((S585 50 (z_ix 0)) = r579 →
    J_L_law_612 L xs post (L_L_law_43 L xs post n) v4 S585) ∧
    (¬ (S585 50 (z_ix 0)) = r579 →
    post 0 S585))) ∧
    (¬ r585 = r561 →
    post 0 S585))))) ∧
    (((xs (z_ix v4)) &&& 15) = 6 →
    vp_in (v4 + 1) L ∧ vp_in (v4 + 2) L ∧ vp_in (v4 + 3) L ∧ P_L_line (xs (z_ix (v4 + 1))) (xs (z_ix (v4 + 2))) (xs (z_ix (v4 + 3))) S (fun r635 S635 =>
    vp_in (v4 + 1) L ∧ vp_in (v4 + 2) L ∧ vp_in (v4 + 3) L ∧ P_M_line (xs (z_ix (v4 + 1))) (xs (z_ix (v4 + 2))) (xs (z_ix (v4 + 3))) S635 (fun r659 S659 =>
    P_M_thrown S659 (fun r665 S665 =>
    (r665 = r635 →
    (¬ r635 = 0 →
    J_L_law_692 L xs post (L_L_law_43 L xs post n) v4 S665) ∧
    (r635 = 0 →
    vp_in 0 1 ∧ ((S665 50 (z_ix 0)) = r659 →
    J_L_law_692 L xs post (L_L_law_43 L xs post n) v4 S665) ∧
    (¬ (S665 50 (z_ix 0)) = r659 →
    post 0 S665))) ∧
    (¬ r665 = r635 →
    post 0 S665))))) ∧
    (((xs (z_ix v4)) &&& 15) = 7 →
    vp_in (v4 + 1) L ∧ P_L_order (xs (z_ix (v4 + 1))) S (fun r703 S703 =>
    vp_in (v4 + 1) L ∧ P_M_order (xs (z_ix (v4 + 1))) S703 (fun r715 S715 =>
    P_M_thrown S715 (fun r721 S721 =>
    (r721 = r703 →
    (¬ r703 = 0 →
    J_L_law_748 L xs post (L_L_law_43 L xs post n) v4 S721) ∧
    (r703 = 0 →
    vp_in 0 1 ∧ ((S721 50 (z_ix 0)) = r715 →
    J_L_law_748 L xs post (L_L_law_43 L xs post n) v4 S721) ∧
    (¬ (S721 50 (z_ix 0)) = r715 →
    post 0 S721))) ∧
    (¬ r721 = r703 →
    post 0 S721))))) ∧
    (((xs (z_ix v4)) &&& 15) = 8 →
    vp_in (v4 + 1) L ∧ vp_in (v4 + 2) L ∧ P_L_cover (xs (z_ix (v4 + 1))) (xs (z_ix (v4 + 2))) S (fun r765 S765 =>
    vp_in (v4 + 1) L ∧ vp_in (v4 + 2) L ∧ P_M_cover (xs (z_ix (v4 + 1))) (xs (z_ix (v4 + 2))) S765 (fun r783 S783 =>
    P_M_thrown S783 (fun r789 S789 =>
    (r789 = r765 →
    (¬ r765 = 0 →
    J_L_law_816 L xs post (L_L_law_43 L xs post n) v4 S789) ∧
    (r765 = 0 →
    vp_in 0 1 ∧ ((S789 50 (z_ix 0)) = r783 →
    J_L_law_816 L xs post (L_L_law_43 L xs post n) v4 S789) ∧
    (¬ (S789 50 (z_ix 0)) = r783 →
    post 0 S789))) ∧
    (¬ r789 = r765 →
    post 0 S789))))) ∧
    (((xs (z_ix v4)) &&& 15) = 9 →
    vp_in (v4 + 1) L ∧ P_L_strip (xs (z_ix (v4 + 1))) S (fun r827 S827 =>
    vp_in (v4 + 1) L ∧ P_M_strip (xs (z_ix (v4 + 1))) S827 (fun r839 S839 =>
    P_M_thrown S839 (fun r845 S845 =>
    (r845 = r827 →
    (¬ r827 = 0 →
    J_L_law_872 L xs post (L_L_law_43 L xs post n) v4 S845) ∧
    (r827 = 0 →
    vp_in 0 1 ∧ ((S845 50 (z_ix 0)) = r839 →
    J_L_law_872 L xs post (L_L_law_43 L xs post n) v4 S845) ∧
    (¬ (S845 50 (z_ix 0)) = r839 →
    post 0 S845))) ∧
    (¬ r845 = r827 →
    post 0 S845))))) ∧
    (((xs (z_ix v4)) &&& 15) = 10 →
    vp_in (v4 + 1) L ∧ vp_in (v4 + 2) L ∧ P_L_cell2 (xs (z_ix (v4 + 1))) (xs (z_ix (v4 + 2))) S (fun r889 S889 =>
    vp_in (v4 + 1) L ∧ vp_in (v4 + 2) L ∧ P_M_cell (xs (z_ix (v4 + 1))) (xs (z_ix (v4 + 2))) S889 (fun r907 S907 =>
    P_M_thrown S907 (fun r913 S913 =>
    (r913 = r889 →
    (¬ r889 = 0 →
    J_L_law_940 L xs post (L_L_law_43 L xs post n) v4 S913) ∧
    (r889 = 0 →
    vp_in 0 1 ∧ ((S913 50 (z_ix 0)) = r907 →
    J_L_law_940 L xs post (L_L_law_43 L xs post n) v4 S913) ∧
    (¬ (S913 50 (z_ix 0)) = r907 →
    post 0 S913))) ∧
    (¬ r913 = r889 →
    post 0 S913))))) ∧
    (((xs (z_ix v4)) &&& 15) = 11 →
    vp_in (v4 + 1) L ∧ vp_in (v4 + 2) L ∧ P_L_isSpeck (xs (z_ix (v4 + 1))) (xs (z_ix (v4 + 2))) S (fun r957 S957 =>
    vp_in (v4 + 1) L ∧ vp_in (v4 + 2) L ∧ P_M_isSpeck (xs (z_ix (v4 + 1))) (xs (z_ix (v4 + 2))) S957 (fun r975 S975 =>
    P_M_thrown S975 (fun r981 S981 =>
    (r981 = r957 →
    (¬ r957 = 0 →
    J_L_law_1015 L xs post (L_L_law_43 L xs post n) v4 S981) ∧
    (r957 = 0 →
    vp_in 0 1 ∧ (r975 = 0 →
    J_L_law_1009 L xs post (L_L_law_43 L xs post n) v4 0 (S981 50 (z_ix 0)) S981) ∧
    (¬ r975 = 0 →
    J_L_law_1009 L xs post (L_L_law_43 L xs post n) v4 1 (S981 50 (z_ix 0)) S981))) ∧
    (¬ r981 = r957 →
    post 0 S981))))) ∧
    (((xs (z_ix v4)) &&& 15) = 12 →
    vp_in (v4 + 1) L ∧ P_P_told (xs (z_ix (v4 + 1))) S (fun r1025 S1025 =>
    vp_in (v4 + 1) L ∧ P_M_told (xs (z_ix (v4 + 1))) S1025 (fun r1035 S1035 =>
    (r1025 = r1035 →
    ∀ x1054 : Int32, x1054 = v4 + 6 → L_L_law_43 L xs post n x1054 S1035) ∧
    (¬ r1025 = r1035 →
    post 0 S1035)))) ∧
    (((xs (z_ix v4)) &&& 15) = 13 →
    P_P_clear S (fun S1044 =>
    P_M_clear S1044 (fun S1048 =>
    ∀ x1054 : Int32, x1054 = v4 + 6 → L_L_law_43 L xs post n x1054 S1048))) ∧
    (¬ ((xs (z_ix v4)) &&& 15) = 0 → ¬ ((xs (z_ix v4)) &&& 15) = 1 → ¬ ((xs (z_ix v4)) &&& 15) = 2 → ¬ ((xs (z_ix v4)) &&& 15) = 3 → ¬ ((xs (z_ix v4)) &&& 15) = 4 → ¬ ((xs (z_ix v4)) &&& 15) = 5 → ¬ ((xs (z_ix v4)) &&& 15) = 6 → ¬ ((xs (z_ix v4)) &&& 15) = 7 → ¬ ((xs (z_ix v4)) &&& 15) = 8 → ¬ ((xs (z_ix v4)) &&& 15) = 9 → ¬ ((xs (z_ix v4)) &&& 15) = 10 → ¬ ((xs (z_ix v4)) &&& 15) = 11 → ¬ ((xs (z_ix v4)) &&& 15) = 12 → ¬ ((xs (z_ix v4)) &&& 15) = 13 → 
    ∀ x1054 : Int32, x1054 = v4 + 6 → L_L_law_43 L xs post n x1054 S))
/-- the side that counts -/
def z_side (v : Int32) : Int32 := if v < 1 then 1 else if 24 < v then 24 else v
def z_cv (L : Nat) (xs : Nat → Int32) (j : Nat) : Int32 := if j < L then xs j else 0
/-- what the cells hold behind the two constructors -/
def z_S0 (w h : Int32) : zS := fun k => match k with
  | 0 => fun j => match j with
    | 0 => w
    | 1 => h
    | 13 => 3
    | _ => 0
  | 5 => fun j => match j with
    | 8 => w
    | 9 => h
    | _ => 0
  | 13 => fun j => match j with
    | 8 => w
    | 9 => h
    | _ => 0
  | 21 => fun j => match j with
    | 6 => w
    | 7 => h
    | _ => 0
  | 31 => fun j => match j with
    | 1 => w
    | 2 => h
    | 4 => 3
    | _ => 0
  | _ => fun _ => 0
/-- THE PURE STATEMENT that is left: the law's loop, over every script -/
def z_pure : Prop := ∀ (L : Nat) (xs : Nat → Int32), L ≤ 3074 → L_L_law_43 L xs (fun v _ => v = 1) 513 2 (z_S0 (z_side (z_cv L xs 0)) (z_side (z_cv L xs 1)))
