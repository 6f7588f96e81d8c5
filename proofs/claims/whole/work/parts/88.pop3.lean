/-! popc counts bits -/
def cntN (x : Nat) : Nat → Nat
  | 0 => 0
  | k + 1 => cntN x k + (x >>> k) % 2
def allN (f : Nat → Bool) : Nat → Bool
  | 0 => true
  | n + 1 => f n && allN f n
theorem allN_at {f : Nat → Bool} : ∀ {n : Nat}, allN f n = true → ∀ k, k < n → f k = true
  | n + 1, h, k, hk => by
    have h' : (f n && allN f n) = true := h
    rw [Bool.and_eq_true] at h'
    by_cases q : k = n
    · rw [q]; exact h'.1
    · exact allN_at h'.2 k (by omega)
theorem pcN_0 : allN (fun a => allN (fun b => Nat.beq (pcN (0 + (256 * a + b))) (cntN (0 + (256 * a + b)) 16)) 256) 16 = true := by decide +kernel
theorem pcN_1 : allN (fun a => allN (fun b => Nat.beq (pcN (4096 + (256 * a + b))) (cntN (4096 + (256 * a + b)) 16)) 256) 16 = true := by decide +kernel
theorem pcN_2 : allN (fun a => allN (fun b => Nat.beq (pcN (8192 + (256 * a + b))) (cntN (8192 + (256 * a + b)) 16)) 256) 16 = true := by decide +kernel
theorem pcN_3 : allN (fun a => allN (fun b => Nat.beq (pcN (12288 + (256 * a + b))) (cntN (12288 + (256 * a + b)) 16)) 256) 16 = true := by decide +kernel
theorem pcN_4 : allN (fun a => allN (fun b => Nat.beq (pcN (16384 + (256 * a + b))) (cntN (16384 + (256 * a + b)) 16)) 256) 16 = true := by decide +kernel
theorem pcN_5 : allN (fun a => allN (fun b => Nat.beq (pcN (20480 + (256 * a + b))) (cntN (20480 + (256 * a + b)) 16)) 256) 16 = true := by decide +kernel
theorem pcN_6 : allN (fun a => allN (fun b => Nat.beq (pcN (24576 + (256 * a + b))) (cntN (24576 + (256 * a + b)) 16)) 256) 16 = true := by decide +kernel
theorem pcN_7 : allN (fun a => allN (fun b => Nat.beq (pcN (28672 + (256 * a + b))) (cntN (28672 + (256 * a + b)) 16)) 256) 16 = true := by decide +kernel
theorem pcN_8 : allN (fun a => allN (fun b => Nat.beq (pcN (32768 + (256 * a + b))) (cntN (32768 + (256 * a + b)) 16)) 256) 16 = true := by decide +kernel
theorem pcN_9 : allN (fun a => allN (fun b => Nat.beq (pcN (36864 + (256 * a + b))) (cntN (36864 + (256 * a + b)) 16)) 256) 16 = true := by decide +kernel
theorem pcN_10 : allN (fun a => allN (fun b => Nat.beq (pcN (40960 + (256 * a + b))) (cntN (40960 + (256 * a + b)) 16)) 256) 16 = true := by decide +kernel
theorem pcN_11 : allN (fun a => allN (fun b => Nat.beq (pcN (45056 + (256 * a + b))) (cntN (45056 + (256 * a + b)) 16)) 256) 16 = true := by decide +kernel
theorem pcN_12 : allN (fun a => allN (fun b => Nat.beq (pcN (49152 + (256 * a + b))) (cntN (49152 + (256 * a + b)) 16)) 256) 16 = true := by decide +kernel
theorem pcN_13 : allN (fun a => allN (fun b => Nat.beq (pcN (53248 + (256 * a + b))) (cntN (53248 + (256 * a + b)) 16)) 256) 16 = true := by decide +kernel
theorem pcN_14 : allN (fun a => allN (fun b => Nat.beq (pcN (57344 + (256 * a + b))) (cntN (57344 + (256 * a + b)) 16)) 256) 16 = true := by decide +kernel
theorem pcN_15 : allN (fun a => allN (fun b => Nat.beq (pcN (61440 + (256 * a + b))) (cntN (61440 + (256 * a + b)) 16)) 256) 16 = true := by decide +kernel
theorem pcN_cnt (x : Nat) (h : x < 65536) : pcN x = cntN x 16 := by
  have k : (0 ≤ x ∧ x < 4096) ∨ (4096 ≤ x ∧ x < 8192) ∨ (8192 ≤ x ∧ x < 12288) ∨ (12288 ≤ x ∧ x < 16384) ∨ (16384 ≤ x ∧ x < 20480) ∨ (20480 ≤ x ∧ x < 24576) ∨ (24576 ≤ x ∧ x < 28672) ∨ (28672 ≤ x ∧ x < 32768) ∨ (32768 ≤ x ∧ x < 36864) ∨ (36864 ≤ x ∧ x < 40960) ∨ (40960 ≤ x ∧ x < 45056) ∨ (45056 ≤ x ∧ x < 49152) ∨ (49152 ≤ x ∧ x < 53248) ∨ (53248 ≤ x ∧ x < 57344) ∨ (57344 ≤ x ∧ x < 61440) ∨ (61440 ≤ x ∧ x < 65536) := by omega
  rcases k with k | k | k | k | k | k | k | k | k | k | k | k | k | k | k | k
  · have h1 := allN_at (allN_at pcN_0 ((x - 0) / 256) (by omega)) ((x - 0) % 256) (by omega)
    rw [show 0 + (256 * ((x - 0) / 256) + (x - 0) % 256) = x by omega] at h1
    exact Nat.eq_of_beq_eq_true h1
  · have h1 := allN_at (allN_at pcN_1 ((x - 4096) / 256) (by omega)) ((x - 4096) % 256) (by omega)
    rw [show 4096 + (256 * ((x - 4096) / 256) + (x - 4096) % 256) = x by omega] at h1
    exact Nat.eq_of_beq_eq_true h1
  · have h1 := allN_at (allN_at pcN_2 ((x - 8192) / 256) (by omega)) ((x - 8192) % 256) (by omega)
    rw [show 8192 + (256 * ((x - 8192) / 256) + (x - 8192) % 256) = x by omega] at h1
    exact Nat.eq_of_beq_eq_true h1
  · have h1 := allN_at (allN_at pcN_3 ((x - 12288) / 256) (by omega)) ((x - 12288) % 256) (by omega)
    rw [show 12288 + (256 * ((x - 12288) / 256) + (x - 12288) % 256) = x by omega] at h1
    exact Nat.eq_of_beq_eq_true h1
  · have h1 := allN_at (allN_at pcN_4 ((x - 16384) / 256) (by omega)) ((x - 16384) % 256) (by omega)
    rw [show 16384 + (256 * ((x - 16384) / 256) + (x - 16384) % 256) = x by omega] at h1
    exact Nat.eq_of_beq_eq_true h1
  · have h1 := allN_at (allN_at pcN_5 ((x - 20480) / 256) (by omega)) ((x - 20480) % 256) (by omega)
    rw [show 20480 + (256 * ((x - 20480) / 256) + (x - 20480) % 256) = x by omega] at h1
    exact Nat.eq_of_beq_eq_true h1
  · have h1 := allN_at (allN_at pcN_6 ((x - 24576) / 256) (by omega)) ((x - 24576) % 256) (by omega)
    rw [show 24576 + (256 * ((x - 24576) / 256) + (x - 24576) % 256) = x by omega] at h1
    exact Nat.eq_of_beq_eq_true h1
  · have h1 := allN_at (allN_at pcN_7 ((x - 28672) / 256) (by omega)) ((x - 28672) % 256) (by omega)
    rw [show 28672 + (256 * ((x - 28672) / 256) + (x - 28672) % 256) = x by omega] at h1
    exact Nat.eq_of_beq_eq_true h1
  · have h1 := allN_at (allN_at pcN_8 ((x - 32768) / 256) (by omega)) ((x - 32768) % 256) (by omega)
    rw [show 32768 + (256 * ((x - 32768) / 256) + (x - 32768) % 256) = x by omega] at h1
    exact Nat.eq_of_beq_eq_true h1
  · have h1 := allN_at (allN_at pcN_9 ((x - 36864) / 256) (by omega)) ((x - 36864) % 256) (by omega)
    rw [show 36864 + (256 * ((x - 36864) / 256) + (x - 36864) % 256) = x by omega] at h1
    exact Nat.eq_of_beq_eq_true h1
  · have h1 := allN_at (allN_at pcN_10 ((x - 40960) / 256) (by omega)) ((x - 40960) % 256) (by omega)
    rw [show 40960 + (256 * ((x - 40960) / 256) + (x - 40960) % 256) = x by omega] at h1
    exact Nat.eq_of_beq_eq_true h1
  · have h1 := allN_at (allN_at pcN_11 ((x - 45056) / 256) (by omega)) ((x - 45056) % 256) (by omega)
    rw [show 45056 + (256 * ((x - 45056) / 256) + (x - 45056) % 256) = x by omega] at h1
    exact Nat.eq_of_beq_eq_true h1
  · have h1 := allN_at (allN_at pcN_12 ((x - 49152) / 256) (by omega)) ((x - 49152) % 256) (by omega)
    rw [show 49152 + (256 * ((x - 49152) / 256) + (x - 49152) % 256) = x by omega] at h1
    exact Nat.eq_of_beq_eq_true h1
  · have h1 := allN_at (allN_at pcN_13 ((x - 53248) / 256) (by omega)) ((x - 53248) % 256) (by omega)
    rw [show 53248 + (256 * ((x - 53248) / 256) + (x - 53248) % 256) = x by omega] at h1
    exact Nat.eq_of_beq_eq_true h1
  · have h1 := allN_at (allN_at pcN_14 ((x - 57344) / 256) (by omega)) ((x - 57344) % 256) (by omega)
    rw [show 57344 + (256 * ((x - 57344) / 256) + (x - 57344) % 256) = x by omega] at h1
    exact Nat.eq_of_beq_eq_true h1
  · have h1 := allN_at (allN_at pcN_15 ((x - 61440) / 256) (by omega)) ((x - 61440) % 256) (by omega)
    rw [show 61440 + (256 * ((x - 61440) / 256) + (x - 61440) % 256) = x by omega] at h1
    exact Nat.eq_of_beq_eq_true h1
theorem popc_cnt (x : Nat) (h : x < 65536) : popc (x : Int) = ((cntN x 16 : Nat) : Int) := by rw [popc_n x h, pcN_cnt x h]
