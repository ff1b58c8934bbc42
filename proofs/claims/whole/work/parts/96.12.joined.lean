/-! what two numbers give, joined by a sign: both sides alike -/
def jn (c x y : Int32) : Int32 := if c = 38 then (if x = 0 then 0 else if y = 0 then 0 else 1) else if c = 42 then x * y else if c = 43 then x + y else if c = 45 then x - y else if c = 47 then (if y = 0 then 0 else x / y) else if c = 60 then (if y ≤ x then 0 else 1) else if c = 61 then (if x = y then 1 else 0) else if c = 62 then (if x ≤ y then 0 else 1) else if c = 124 then (if x = 0 then (if y = 0 then 0 else 1) else 1) else (if y = 0 then 0 else x - x / y * y)
theorem jif {c : Prop} [Decidable c] {a b : Int32} {Q : Int32 → Prop} {A B : Prop} (h : Q (if c then a else b)) (f : Q a → A) (g : Q b → B) : (c → A) ∧ (¬ c → B) := ⟨fun q => f (by rw [if_pos q] at h; exact h), fun q => g (by rw [if_neg q] at h; exact h)⟩
theorem jif' {c : Prop} [Decidable c] {a b : Int32} {Q : Int32 → Prop} {A B : Prop} (h : Q (if c then a else b)) (f : Q a → A) (g : Q b → B) : (¬ c → B) ∧ (c → A) := ⟨fun q => g (by rw [if_neg q] at h; exact h), fun q => f (by rw [if_pos q] at h; exact h)⟩
theorem jnot {c : Prop} [Decidable c] {a b : Int32} {Q : Int32 → Prop} {B : Prop} (h : Q (if c then a else b)) (f : Q a → B) (g : ¬ c → Q b → B) : B := by
  by_cases q : c
  · exact f (by rw [if_pos q] at h; exact h)
  · exact g q (by rw [if_neg q] at h; exact h)
theorem s3_joined {c x y : Int32} {Q : Int32 → Prop} (h : Q (jn c x y)) : qX3_joined c x y Q := by
  unfold jn at h
  refine jif h (fun h => jif h (fun h => h) (fun h => jif h (fun h => h) (fun h => h))) (fun h => ?_)
  refine jif h (fun h => h) (fun h => ?_)
  refine jif h (fun h => h) (fun h => ?_)
  refine jif h (fun h => h) (fun h => ?_)
  refine jif h (fun h => ⟨fun q => ⟨q, by rw [if_neg q] at h; exact h⟩, fun q => by rw [if_pos q] at h; exact h⟩) (fun h => ?_)
  refine jif h (fun h => jif h (fun h => h) (fun h => h)) (fun h => ?_)
  refine jif h (fun h => jif' h (fun h => h) (fun h => h)) (fun h => ?_)
  refine jif h (fun h => jif h (fun h => h) (fun h => h)) (fun h => ?_)
  refine jif h (fun h => jif' h (fun h => jif h (fun h => h) (fun h => h)) (fun h => h)) (fun h => ?_)
  exact ⟨fun q => ⟨q, by rw [if_neg q] at h; exact h⟩, fun q => by rw [if_pos q] at h; exact h⟩
theorem div_m1 (x : Int32) : x / (-1) = -x := by
  rw [← Int32.toInt_inj, Int32.toInt_div, show (-1 : Int32).toInt = -1 from by decide, Int.tdiv_neg, Int.tdiv_one, Int32.toInt_neg]
theorem rem_m1 (x : Int32) : x - x / (-1) * (-1) = 0 := by
  rw [div_m1, Int32.neg_mul_neg, Int32.mul_one, Int32.sub_self]
theorem jn_38 (x y : Int32) : jn 38 x y = (if x = 0 then 0 else if y = 0 then 0 else 1) := by
  unfold jn
  rw [if_pos rfl]
theorem jn_42 (x y : Int32) : jn 42 x y = (x * y) := by
  unfold jn
  rw [if_neg (by decide), if_pos rfl]
theorem jn_43 (x y : Int32) : jn 43 x y = (x + y) := by
  unfold jn
  rw [if_neg (by decide), if_neg (by decide), if_pos rfl]
theorem jn_45 (x y : Int32) : jn 45 x y = (x - y) := by
  unfold jn
  rw [if_neg (by decide), if_neg (by decide), if_neg (by decide), if_pos rfl]
theorem jn_47 (x y : Int32) : jn 47 x y = (if y = 0 then 0 else x / y) := by
  unfold jn
  rw [if_neg (by decide), if_neg (by decide), if_neg (by decide), if_neg (by decide), if_pos rfl]
theorem jn_60 (x y : Int32) : jn 60 x y = (if y ≤ x then 0 else 1) := by
  unfold jn
  rw [if_neg (by decide), if_neg (by decide), if_neg (by decide), if_neg (by decide), if_neg (by decide), if_pos rfl]
theorem jn_61 (x y : Int32) : jn 61 x y = (if x = y then 1 else 0) := by
  unfold jn
  rw [if_neg (by decide), if_neg (by decide), if_neg (by decide), if_neg (by decide), if_neg (by decide), if_neg (by decide), if_pos rfl]
theorem jn_62 (x y : Int32) : jn 62 x y = (if x ≤ y then 0 else 1) := by
  unfold jn
  rw [if_neg (by decide), if_neg (by decide), if_neg (by decide), if_neg (by decide), if_neg (by decide), if_neg (by decide), if_neg (by decide), if_pos rfl]
theorem jn_124 (x y : Int32) : jn 124 x y = (if x = 0 then (if y = 0 then 0 else 1) else 1) := by
  unfold jn
  rw [if_neg (by decide), if_neg (by decide), if_neg (by decide), if_neg (by decide), if_neg (by decide), if_neg (by decide), if_neg (by decide), if_neg (by decide), if_pos rfl]
theorem jn_37 (x y : Int32) : jn 37 x y = (if y = 0 then 0 else x - x / y * y) := by
  unfold jn
  rw [if_neg (by decide), if_neg (by decide), if_neg (by decide), if_neg (by decide), if_neg (by decide), if_neg (by decide), if_neg (by decide), if_neg (by decide), if_neg (by decide)]
/-- the reference's way: a sign is one of the ten -/
theorem s7_joined {c x y : Int32} {Q : Int32 → Prop} (hc : c = 38 ∨ c = 42 ∨ c = 43 ∨ c = 45 ∨ c = 47 ∨ c = 60 ∨ c = 61 ∨ c = 62 ∨ c = 124 ∨ c = 37) (h : Q (jn c x y)) : qX7_joined c x y Q := by
  rcases hc with rfl | rfl | rfl | rfl | rfl | rfl | rfl | rfl | rfl | rfl
  · rw [jn_38] at h
    exact ⟨fun e => absurd e (by decide), fun _ => ⟨fun _ => jif h (fun h => h) (fun h => jif h (fun h => h) (fun h => h)), fun e => absurd rfl e⟩⟩
  · rw [jn_42] at h
    exact ⟨fun e => absurd e (by decide), fun _ => ⟨fun e => absurd e (by decide), fun _ => ⟨fun _ => h, fun e => absurd rfl e⟩⟩⟩
  · rw [jn_43] at h
    exact ⟨fun e => absurd e (by decide), fun _ => ⟨fun e => absurd e (by decide), fun _ => ⟨fun e => absurd e (by decide), fun _ => ⟨fun _ => h, fun e => absurd rfl e⟩⟩⟩⟩
  · rw [jn_45] at h
    exact ⟨fun e => absurd e (by decide), fun _ => ⟨fun e => absurd e (by decide), fun _ => ⟨fun e => absurd e (by decide), fun _ => ⟨fun e => absurd e (by decide), fun _ => ⟨fun _ => h, fun e => absurd rfl e⟩⟩⟩⟩⟩
  · rw [jn_47] at h
    exact ⟨fun e => absurd e (by decide), fun _ => ⟨fun e => absurd e (by decide), fun _ => ⟨fun e => absurd e (by decide), fun _ => ⟨fun e => absurd e (by decide), fun _ => ⟨fun e => absurd e (by decide), fun _ => ⟨fun _ => ⟨fun q => by rw [if_neg q] at h; exact ⟨fun _ => ⟨q, h⟩, fun e => by rw [e, div_m1] at h; exact h⟩, fun q => by rw [if_pos q] at h; exact h⟩, fun e => absurd rfl e⟩⟩⟩⟩⟩⟩
  · rw [jn_60] at h
    exact ⟨fun e => absurd e (by decide), fun _ => ⟨fun e => absurd e (by decide), fun _ => ⟨fun e => absurd e (by decide), fun _ => ⟨fun e => absurd e (by decide), fun _ => ⟨fun e => absurd e (by decide), fun _ => ⟨fun e => absurd e (by decide), fun _ => ⟨fun _ => jif h (fun h => h) (fun h => h), fun e => absurd rfl e⟩⟩⟩⟩⟩⟩⟩
  · rw [jn_61] at h
    exact ⟨fun e => absurd e (by decide), fun _ => ⟨fun e => absurd e (by decide), fun _ => ⟨fun e => absurd e (by decide), fun _ => ⟨fun e => absurd e (by decide), fun _ => ⟨fun e => absurd e (by decide), fun _ => ⟨fun e => absurd e (by decide), fun _ => ⟨fun e => absurd e (by decide), fun _ => ⟨fun _ => jif' h (fun h => h) (fun h => h), fun e => absurd rfl e⟩⟩⟩⟩⟩⟩⟩⟩
  · rw [jn_62] at h
    exact ⟨fun e => absurd e (by decide), fun _ => ⟨fun e => absurd e (by decide), fun _ => ⟨fun e => absurd e (by decide), fun _ => ⟨fun e => absurd e (by decide), fun _ => ⟨fun e => absurd e (by decide), fun _ => ⟨fun e => absurd e (by decide), fun _ => ⟨fun e => absurd e (by decide), fun _ => ⟨fun e => absurd e (by decide), fun _ => ⟨fun _ => jif h (fun h => h) (fun h => h), fun e => absurd rfl e⟩⟩⟩⟩⟩⟩⟩⟩⟩
  · rw [jn_124] at h
    exact ⟨fun e => absurd e (by decide), fun _ => ⟨fun e => absurd e (by decide), fun _ => ⟨fun e => absurd e (by decide), fun _ => ⟨fun e => absurd e (by decide), fun _ => ⟨fun e => absurd e (by decide), fun _ => ⟨fun e => absurd e (by decide), fun _ => ⟨fun e => absurd e (by decide), fun _ => ⟨fun e => absurd e (by decide), fun _ => ⟨fun e => absurd e (by decide), fun _ => jif' h (fun h => jif h (fun h => h) (fun h => h)) (fun h => h)⟩⟩⟩⟩⟩⟩⟩⟩⟩
  · rw [jn_37] at h
    exact ⟨fun _ => ⟨fun q => by rw [if_pos q] at h; exact h, fun q => by rw [if_neg q] at h; exact ⟨fun _ => ⟨q, h⟩, fun e => by rw [e, rem_m1] at h; exact h⟩⟩, fun e => absurd rfl e⟩
