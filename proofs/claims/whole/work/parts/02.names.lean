def zT_OB : u_T := fun k => match k with
  | 0 => ("OrreryBox", "width", "I", true)
  | 1 => ("OrreryBox", "height", "I", true)
  | 2 => ("OrreryBox", "tape", "[B", true)
  | 3 => ("OrreryBox", "taped", "I", false)
  | 4 => ("OrreryBox", "scenes", "[LOrreryBox$Scene;", true)
  | 5 => ("OrreryBox", "scene", "LOrreryBox$Scene;", false)
  | 6 => ("OrreryBox", "reader", "LOrreryBox$Reader;", true)
  | 7 => ("OrreryBox", "sight", "LOrreryBox$Sight;", true)
  | 8 => ("OrreryBox", "picture", "LOrreryBox$Picture;", true)
  | 9 => ("OrreryBox", "packer", "LOrreryBox$Packer;", true)
  | 10 => ("OrreryBox", "ground", "I", false)
  | _ => ("OrreryBox", "pickedFace", "I", false)
def zt_OB : Nat → FieldType := fun k => match k with
  | 0 => .int
  | 1 => .int
  | 2 => .array .byte
  | 3 => .int
  | 4 => .array (.object "OrreryBox$Scene")
  | 5 => .object "OrreryBox$Scene"
  | 6 => .object "OrreryBox$Reader"
  | 7 => .object "OrreryBox$Sight"
  | 8 => .object "OrreryBox$Picture"
  | 9 => .object "OrreryBox$Packer"
  | 10 => .int
  | _ => .int
theorem zn_OB : ∀ a, a < 12 → ∀ b, b < 12 → a ≠ b → (zT_OB a).2.1 ≠ (zT_OB b).2.1 := by decide +kernel
theorem zo_OB : ∀ k, k < 12 → parseFieldDescriptor (zT_OB k).2.2.1 = some (zt_OB k) := by decide +kernel
def zT_MD : u_T := fun k => match k with
  | 0 => ("OrreryBoxModel", "width", "I", true)
  | 1 => ("OrreryBoxModel", "height", "I", true)
  | 2 => ("OrreryBoxModel", "tape", "[B", true)
  | 3 => ("OrreryBoxModel", "tapeLong", "I", false)
  | 4 => ("OrreryBoxModel", "now", "LOrreryBoxModel$Scene;", true)
  | 5 => ("OrreryBoxModel", "draft", "LOrreryBoxModel$Scene;", true)
  | 6 => ("OrreryBoxModel", "shot", "LOrreryBoxModel$Scene;", true)
  | 7 => ("OrreryBoxModel", "reader", "LOrreryBoxModel$Reader;", true)
  | 8 => ("OrreryBoxModel", "painter", "LOrreryBoxModel$Painter;", true)
  | 9 => ("OrreryBoxModel", "packer", "LOrreryBoxModel$Packer;", true)
  | 10 => ("OrreryBoxModel", "time", "I", false)
  | 11 => ("OrreryBoxModel", "thrown", "I", false)
  | 12 => ("OrreryBoxModel", "wrongKind", "I", false)
  | 13 => ("OrreryBoxModel", "wrongAt", "I", false)
  | 14 => ("OrreryBoxModel", "ground", "[I", true)
  | 15 => ("OrreryBoxModel", "begun", "Z", false)
  | 16 => ("OrreryBoxModel", "done", "[Z", true)
  | 17 => ("OrreryBoxModel", "colours", "[I", true)
  | 18 => ("OrreryBoxModel", "near", "[J", true)
  | _ => ("OrreryBoxModel", "pickedFace", "I", false)
def zt_MD : Nat → FieldType := fun k => match k with
  | 0 => .int
  | 1 => .int
  | 2 => .array .byte
  | 3 => .int
  | 4 => .object "OrreryBoxModel$Scene"
  | 5 => .object "OrreryBoxModel$Scene"
  | 6 => .object "OrreryBoxModel$Scene"
  | 7 => .object "OrreryBoxModel$Reader"
  | 8 => .object "OrreryBoxModel$Painter"
  | 9 => .object "OrreryBoxModel$Packer"
  | 10 => .int
  | 11 => .int
  | 12 => .int
  | 13 => .int
  | 14 => .array .int
  | 15 => .boolean
  | 16 => .array .boolean
  | 17 => .array .int
  | 18 => .array .long
  | _ => .int
theorem zn_MD : ∀ a, a < 20 → ∀ b, b < 20 → a ≠ b → (zT_MD a).2.1 ≠ (zT_MD b).2.1 := by decide +kernel
theorem zo_MD : ∀ k, k < 20 → parseFieldDescriptor (zT_MD k).2.2.1 = some (zt_MD k) := by decide +kernel
def zT_XMesh : u_T := fun k => match k with
  | 0 => ("OrreryBox$Mesh", "material", "I", false)
  | 1 => ("OrreryBox$Mesh", "pointCount", "I", false)
  | 2 => ("OrreryBox$Mesh", "faceCount", "I", false)
  | 3 => ("OrreryBox$Mesh", "points", "[I", true)
  | 4 => ("OrreryBox$Mesh", "normals", "[I", true)
  | 5 => ("OrreryBox$Mesh", "places", "[I", true)
  | _ => ("OrreryBox$Mesh", "faces", "[I", true)
def zt_XMesh : Nat → FieldType := fun k => match k with
  | 0 => .int
  | 1 => .int
  | 2 => .int
  | 3 => .array .int
  | 4 => .array .int
  | 5 => .array .int
  | _ => .array .int
theorem zn_XMesh : ∀ a, a < 7 → ∀ b, b < 7 → a ≠ b → (zT_XMesh a).2.1 ≠ (zT_XMesh b).2.1 := by decide +kernel
theorem zo_XMesh : ∀ k, k < 7 → parseFieldDescriptor (zT_XMesh k).2.2.1 = some (zt_XMesh k) := by decide +kernel
def zT_XNode : u_T := fun k => match k with
  | 0 => ("OrreryBox$Node", "parent", "I", false)
  | 1 => ("OrreryBox$Node", "mesh", "I", false)
  | 2 => ("OrreryBox$Node", "hidden", "Z", false)
  | 3 => ("OrreryBox$Node", "shown", "Z", false)
  | 4 => ("OrreryBox$Node", "numbers", "[I", true)
  | _ => ("OrreryBox$Node", "placing", "[I", true)
def zt_XNode : Nat → FieldType := fun k => match k with
  | 0 => .int
  | 1 => .int
  | 2 => .boolean
  | 3 => .boolean
  | 4 => .array .int
  | _ => .array .int
theorem zn_XNode : ∀ a, a < 6 → ∀ b, b < 6 → a ≠ b → (zT_XNode a).2.1 ≠ (zT_XNode b).2.1 := by decide +kernel
theorem zo_XNode : ∀ k, k < 6 → parseFieldDescriptor (zT_XNode k).2.2.1 = some (zt_XNode k) := by decide +kernel
def zT_XPacker : u_T := fun k => match k with
  | 0 => ("OrreryBox$Packer", "out", "[B", true)
  | 1 => ("OrreryBox$Packer", "size", "I", false)
  | 2 => ("OrreryBox$Packer", "raw", "[I", true)
  | 3 => ("OrreryBox$Packer", "rows", "[I", true)
  | 4 => ("OrreryBox$Packer", "rowsSize", "I", false)
  | 5 => ("OrreryBox$Packer", "latest", "[I", true)
  | 6 => ("OrreryBox$Packer", "earlier", "[I", true)
  | 7 => ("OrreryBox$Packer", "runLength", "I", false)
  | 8 => ("OrreryBox$Packer", "runBack", "I", false)
  | 9 => ("OrreryBox$Packer", "held", "I", false)
  | _ => ("OrreryBox$Packer", "heldBits", "I", false)
def zt_XPacker : Nat → FieldType := fun k => match k with
  | 0 => .array .byte
  | 1 => .int
  | 2 => .array .int
  | 3 => .array .int
  | 4 => .int
  | 5 => .array .int
  | 6 => .array .int
  | 7 => .int
  | 8 => .int
  | 9 => .int
  | _ => .int
theorem zn_XPacker : ∀ a, a < 11 → ∀ b, b < 11 → a ≠ b → (zT_XPacker a).2.1 ≠ (zT_XPacker b).2.1 := by decide +kernel
theorem zo_XPacker : ∀ k, k < 11 → parseFieldDescriptor (zT_XPacker k).2.2.1 = some (zt_XPacker k) := by decide +kernel
def zT_XPicture : u_T := fun k => match k with
  | 0 => ("OrreryBox$Picture", "tiles", "I", true)
  | 1 => ("OrreryBox$Picture", "colours", "[I", true)
  | 2 => ("OrreryBox$Picture", "nears", "[I", true)
  | 3 => ("OrreryBox$Picture", "scene", "LOrreryBox$Scene;", false)
  | 4 => ("OrreryBox$Picture", "width", "I", true)
  | 5 => ("OrreryBox$Picture", "height", "I", true)
  | 6 => ("OrreryBox$Picture", "across", "I", true)
  | 7 => ("OrreryBox$Picture", "ground", "I", false)
  | 8 => ("OrreryBox$Picture", "pieces", "[I", true)
  | 9 => ("OrreryBox$Picture", "kinds", "[B", true)
  | 10 => ("OrreryBox$Picture", "pieceCount", "I", false)
  | 11 => ("OrreryBox$Picture", "piece", "LOrreryBox$Piece;", true)
  | 12 => ("OrreryBox$Picture", "begun", "Z", false)
  | 13 => ("OrreryBox$Picture", "done", "J", false)
  | 14 => ("OrreryBox$Picture", "left", "I", false)
  | 15 => ("OrreryBox$Picture", "top", "I", false)
  | 16 => ("OrreryBox$Picture", "right", "I", false)
  | _ => ("OrreryBox$Picture", "bottom", "I", false)
def zt_XPicture : Nat → FieldType := fun k => match k with
  | 0 => .int
  | 1 => .array .int
  | 2 => .array .int
  | 3 => .object "OrreryBox$Scene"
  | 4 => .int
  | 5 => .int
  | 6 => .int
  | 7 => .int
  | 8 => .array .int
  | 9 => .array .byte
  | 10 => .int
  | 11 => .object "OrreryBox$Piece"
  | 12 => .boolean
  | 13 => .long
  | 14 => .int
  | 15 => .int
  | 16 => .int
  | _ => .int
theorem zn_XPicture : ∀ a, a < 18 → ∀ b, b < 18 → a ≠ b → (zT_XPicture a).2.1 ≠ (zT_XPicture b).2.1 := by decide +kernel
theorem zo_XPicture : ∀ k, k < 18 → parseFieldDescriptor (zT_XPicture k).2.2.1 = some (zt_XPicture k) := by decide +kernel
def zT_XPiece : u_T := fun k => match k with
  | 0 => ("OrreryBox$Piece", "area", "J", false)
  | 1 => ("OrreryBox$Piece", "row", "[I", true)
  | 2 => ("OrreryBox$Piece", "w0", "J", false)
  | 3 => ("OrreryBox$Piece", "w1", "J", false)
  | 4 => ("OrreryBox$Piece", "w2", "J", false)
  | _ => ("OrreryBox$Piece", "h", "J", false)
def zt_XPiece : Nat → FieldType := fun k => match k with
  | 0 => .long
  | 1 => .array .int
  | 2 => .long
  | 3 => .long
  | 4 => .long
  | _ => .long
theorem zn_XPiece : ∀ a, a < 6 → ∀ b, b < 6 → a ≠ b → (zT_XPiece a).2.1 ≠ (zT_XPiece b).2.1 := by decide +kernel
theorem zo_XPiece : ∀ k, k < 6 → parseFieldDescriptor (zT_XPiece k).2.2.1 = some (zt_XPiece k) := by decide +kernel
def zT_XReader : u_T := fun k => match k with
  | 0 => ("OrreryBox$Reader", "wrong", "I", false)
  | 1 => ("OrreryBox$Reader", "wrongAt", "I", false)
  | 2 => ("OrreryBox$Reader", "row", "[I", true)
  | 3 => ("OrreryBox$Reader", "text", "[B", false)
  | 4 => ("OrreryBox$Reader", "length", "I", false)
  | 5 => ("OrreryBox$Reader", "at", "I", false)
  | 6 => ("OrreryBox$Reader", "numberAt", "I", false)
  | _ => ("OrreryBox$Reader", "scene", "LOrreryBox$Scene;", false)
def zt_XReader : Nat → FieldType := fun k => match k with
  | 0 => .int
  | 1 => .int
  | 2 => .array .int
  | 3 => .array .byte
  | 4 => .int
  | 5 => .int
  | 6 => .int
  | _ => .object "OrreryBox$Scene"
theorem zn_XReader : ∀ a, a < 8 → ∀ b, b < 8 → a ≠ b → (zT_XReader a).2.1 ≠ (zT_XReader b).2.1 := by decide +kernel
theorem zo_XReader : ∀ k, k < 8 → parseFieldDescriptor (zT_XReader k).2.2.1 = some (zt_XReader k) := by decide +kernel
def zT_XScene : u_T := fun k => match k with
  | 0 => ("OrreryBox$Scene", "counts", "[I", true)
  | 1 => ("OrreryBox$Scene", "textures", "[LOrreryBox$Texture;", true)
  | 2 => ("OrreryBox$Scene", "materials", "[[I", true)
  | 3 => ("OrreryBox$Scene", "meshes", "[LOrreryBox$Mesh;", true)
  | 4 => ("OrreryBox$Scene", "nodes", "[LOrreryBox$Node;", true)
  | 5 => ("OrreryBox$Scene", "tracks", "[LOrreryBox$Track;", true)
  | 6 => ("OrreryBox$Scene", "viewer", "[I", true)
  | 7 => ("OrreryBox$Scene", "lamp", "[I", true)
  | 8 => ("OrreryBox$Scene", "now", "I", false)
  | 9 => ("OrreryBox$Scene", "placed", "Z", false)
  | _ => ("OrreryBox$Scene", "local", "[I", true)
def zt_XScene : Nat → FieldType := fun k => match k with
  | 0 => .array .int
  | 1 => .array (.object "OrreryBox$Texture")
  | 2 => .array (.array .int)
  | 3 => .array (.object "OrreryBox$Mesh")
  | 4 => .array (.object "OrreryBox$Node")
  | 5 => .array (.object "OrreryBox$Track")
  | 6 => .array .int
  | 7 => .array .int
  | 8 => .int
  | 9 => .boolean
  | _ => .array .int
theorem zn_XScene : ∀ a, a < 11 → ∀ b, b < 11 → a ≠ b → (zT_XScene a).2.1 ≠ (zT_XScene b).2.1 := by decide +kernel
theorem zo_XScene : ∀ k, k < 11 → parseFieldDescriptor (zT_XScene k).2.2.1 = some (zt_XScene k) := by decide +kernel
def zT_XSight : u_T := fun k => match k with
  | 0 => ("OrreryBox$Sight", "piece", "LOrreryBox$Piece;", true)
  | 1 => ("OrreryBox$Sight", "face", "I", false)
  | 2 => ("OrreryBox$Sight", "corners", "[I", false)
  | 3 => ("OrreryBox$Sight", "cornerCount", "I", false)
  | 4 => ("OrreryBox$Sight", "second", "I", false)
  | 5 => ("OrreryBox$Sight", "width", "I", true)
  | 6 => ("OrreryBox$Sight", "height", "I", true)
  | 7 => ("OrreryBox$Sight", "scene", "LOrreryBox$Scene;", false)
  | 8 => ("OrreryBox$Sight", "view", "[I", true)
  | 9 => ("OrreryBox$Sight", "sights", "[[I", true)
  | 10 => ("OrreryBox$Sight", "order", "[I", true)
  | 11 => ("OrreryBox$Sight", "seen", "I", false)
  | 12 => ("OrreryBox$Sight", "place", "I", false)
  | 13 => ("OrreryBox$Sight", "stood", "[I", true)
  | _ => ("OrreryBox$Sight", "cutCorners", "[I", false)
def zt_XSight : Nat → FieldType := fun k => match k with
  | 0 => .object "OrreryBox$Piece"
  | 1 => .int
  | 2 => .array .int
  | 3 => .int
  | 4 => .int
  | 5 => .int
  | 6 => .int
  | 7 => .object "OrreryBox$Scene"
  | 8 => .array .int
  | 9 => .array (.array .int)
  | 10 => .array .int
  | 11 => .int
  | 12 => .int
  | 13 => .array .int
  | _ => .array .int
theorem zn_XSight : ∀ a, a < 15 → ∀ b, b < 15 → a ≠ b → (zT_XSight a).2.1 ≠ (zT_XSight b).2.1 := by decide +kernel
theorem zo_XSight : ∀ k, k < 15 → parseFieldDescriptor (zT_XSight k).2.2.1 = some (zt_XSight k) := by decide +kernel
def zT_XTexture : u_T := fun k => match k with
  | 0 => ("OrreryBox$Texture", "side", "I", false)
  | 1 => ("OrreryBox$Texture", "wrap", "I", false)
  | 2 => ("OrreryBox$Texture", "soft", "Z", false)
  | 3 => ("OrreryBox$Texture", "last", "I", false)
  | 4 => ("OrreryBox$Texture", "texels", "[I", true)
  | _ => ("OrreryBox$Texture", "starts", "[I", true)
def zt_XTexture : Nat → FieldType := fun k => match k with
  | 0 => .int
  | 1 => .int
  | 2 => .boolean
  | 3 => .int
  | 4 => .array .int
  | _ => .array .int
theorem zn_XTexture : ∀ a, a < 6 → ∀ b, b < 6 → a ≠ b → (zT_XTexture a).2.1 ≠ (zT_XTexture b).2.1 := by decide +kernel
theorem zo_XTexture : ∀ k, k < 6 → parseFieldDescriptor (zT_XTexture k).2.2.1 = some (zt_XTexture k) := by decide +kernel
def zT_XTrack : u_T := fun k => match k with
  | 0 => ("OrreryBox$Track", "node", "I", false)
  | 1 => ("OrreryBox$Track", "what", "I", false)
  | 2 => ("OrreryBox$Track", "how", "I", false)
  | 3 => ("OrreryBox$Track", "keys", "I", false)
  | 4 => ("OrreryBox$Track", "times", "[I", true)
  | _ => ("OrreryBox$Track", "values", "[I", true)
def zt_XTrack : Nat → FieldType := fun k => match k with
  | 0 => .int
  | 1 => .int
  | 2 => .int
  | 3 => .int
  | 4 => .array .int
  | _ => .array .int
theorem zn_XTrack : ∀ a, a < 6 → ∀ b, b < 6 → a ≠ b → (zT_XTrack a).2.1 ≠ (zT_XTrack b).2.1 := by decide +kernel
theorem zo_XTrack : ∀ k, k < 6 → parseFieldDescriptor (zT_XTrack k).2.2.1 = some (zt_XTrack k) := by decide +kernel
def zT_MPacker : u_T := fun k => match k with
  | 0 => ("OrreryBoxModel$Packer", "rows", "[I", true)
  | 1 => ("OrreryBoxModel$Packer", "rowsLong", "I", false)
  | 2 => ("OrreryBoxModel$Packer", "file", "[B", true)
  | 3 => ("OrreryBoxModel$Packer", "fileLong", "I", false)
  | 4 => ("OrreryBoxModel$Packer", "bits", "I", false)
  | 5 => ("OrreryBoxModel$Packer", "width", "I", false)
  | _ => ("OrreryBoxModel$Packer", "colours", "[I", false)
def zt_MPacker : Nat → FieldType := fun k => match k with
  | 0 => .array .int
  | 1 => .int
  | 2 => .array .byte
  | 3 => .int
  | 4 => .int
  | 5 => .int
  | _ => .array .int
theorem zn_MPacker : ∀ a, a < 7 → ∀ b, b < 7 → a ≠ b → (zT_MPacker a).2.1 ≠ (zT_MPacker b).2.1 := by decide +kernel
theorem zo_MPacker : ∀ k, k < 7 → parseFieldDescriptor (zT_MPacker k).2.2.1 = some (zt_MPacker k) := by decide +kernel
def zT_MPainter : u_T := fun k => match k with
  | 0 => ("OrreryBoxModel$Painter", "pieces", "I", false)
  | 1 => ("OrreryBoxModel$Painter", "width", "I", true)
  | 2 => ("OrreryBoxModel$Painter", "height", "I", true)
  | 3 => ("OrreryBoxModel$Painter", "colours", "[I", true)
  | 4 => ("OrreryBoxModel$Painter", "near", "[J", true)
  | 5 => ("OrreryBoxModel$Painter", "scene", "LOrreryBoxModel$Scene;", false)
  | 6 => ("OrreryBoxModel$Painter", "left", "I", false)
  | 7 => ("OrreryBoxModel$Painter", "top", "I", false)
  | 8 => ("OrreryBoxModel$Painter", "right", "I", false)
  | 9 => ("OrreryBoxModel$Painter", "bottom", "I", false)
  | 10 => ("OrreryBoxModel$Painter", "paints", "Z", false)
  | 11 => ("OrreryBoxModel$Painter", "bestNode", "I", false)
  | 12 => ("OrreryBoxModel$Painter", "bestFace", "I", false)
  | 13 => ("OrreryBoxModel$Painter", "bestNear", "J", false)
  | 14 => ("OrreryBoxModel$Painter", "world", "[J", true)
  | 15 => ("OrreryBoxModel$Painter", "view", "[J", true)
  | 16 => ("OrreryBoxModel$Painter", "m", "[J", true)
  | 17 => ("OrreryBoxModel$Painter", "part", "[J", true)
  | 18 => ("OrreryBoxModel$Painter", "turned", "[J", true)
  | 19 => ("OrreryBoxModel$Painter", "made", "[J", true)
  | 20 => ("OrreryBoxModel$Painter", "chain", "[I", true)
  | 21 => ("OrreryBoxModel$Painter", "key", "[J", true)
  | 22 => ("OrreryBoxModel$Painter", "order", "[I", true)
  | 23 => ("OrreryBoxModel$Painter", "corner", "[J", true)
  | 24 => ("OrreryBoxModel$Painter", "cut", "[J", true)
  | 25 => ("OrreryBoxModel$Painter", "side", "[J", true)
  | 26 => ("OrreryBoxModel$Painter", "corners", "I", false)
  | 27 => ("OrreryBoxModel$Painter", "px", "[J", true)
  | 28 => ("OrreryBoxModel$Painter", "py", "[J", true)
  | 29 => ("OrreryBoxModel$Painter", "pr", "[J", true)
  | _ => ("OrreryBoxModel$Painter", "channel", "[J", true)
def zt_MPainter : Nat → FieldType := fun k => match k with
  | 0 => .int
  | 1 => .int
  | 2 => .int
  | 3 => .array .int
  | 4 => .array .long
  | 5 => .object "OrreryBoxModel$Scene"
  | 6 => .int
  | 7 => .int
  | 8 => .int
  | 9 => .int
  | 10 => .boolean
  | 11 => .int
  | 12 => .int
  | 13 => .long
  | 14 => .array .long
  | 15 => .array .long
  | 16 => .array .long
  | 17 => .array .long
  | 18 => .array .long
  | 19 => .array .long
  | 20 => .array .int
  | 21 => .array .long
  | 22 => .array .int
  | 23 => .array .long
  | 24 => .array .long
  | 25 => .array .long
  | 26 => .int
  | 27 => .array .long
  | 28 => .array .long
  | 29 => .array .long
  | _ => .array .long
theorem zn_MPainter : ∀ a, a < 31 → ∀ b, b < 31 → a ≠ b → (zT_MPainter a).2.1 ≠ (zT_MPainter b).2.1 := by decide +kernel
theorem zo_MPainter : ∀ k, k < 31 → parseFieldDescriptor (zT_MPainter k).2.2.1 = some (zt_MPainter k) := by decide +kernel
def zT_MReader : u_T := fun k => match k with
  | 0 => ("OrreryBoxModel$Reader", "text", "[B", true)
  | 1 => ("OrreryBoxModel$Reader", "scene", "LOrreryBoxModel$Scene;", true)
  | 2 => ("OrreryBoxModel$Reader", "size", "I", false)
  | 3 => ("OrreryBoxModel$Reader", "at", "I", false)
  | 4 => ("OrreryBoxModel$Reader", "wrong", "I", false)
  | 5 => ("OrreryBoxModel$Reader", "wrongAt", "I", false)
  | 6 => ("OrreryBoxModel$Reader", "numberAt", "I", false)
  | 7 => ("OrreryBoxModel$Reader", "number", "I", false)
  | 8 => ("OrreryBoxModel$Reader", "isInt", "Z", false)
  | 9 => ("OrreryBoxModel$Reader", "listed", "I", false)
  | _ => ("OrreryBoxModel$Reader", "part", "I", false)
def zt_MReader : Nat → FieldType := fun k => match k with
  | 0 => .array .byte
  | 1 => .object "OrreryBoxModel$Scene"
  | 2 => .int
  | 3 => .int
  | 4 => .int
  | 5 => .int
  | 6 => .int
  | 7 => .int
  | 8 => .boolean
  | 9 => .int
  | _ => .int
theorem zn_MReader : ∀ a, a < 11 → ∀ b, b < 11 → a ≠ b → (zT_MReader a).2.1 ≠ (zT_MReader b).2.1 := by decide +kernel
theorem zo_MReader : ∀ k, k < 11 → parseFieldDescriptor (zT_MReader k).2.2.1 = some (zt_MReader k) := by decide +kernel
def zT_MScene : u_T := fun k => match k with
  | 0 => ("OrreryBoxModel$Scene", "textures", "I", false)
  | 1 => ("OrreryBoxModel$Scene", "materials", "I", false)
  | 2 => ("OrreryBoxModel$Scene", "meshes", "I", false)
  | 3 => ("OrreryBoxModel$Scene", "nodes", "I", false)
  | 4 => ("OrreryBoxModel$Scene", "tracks", "I", false)
  | 5 => ("OrreryBoxModel$Scene", "side", "[I", true)
  | 6 => ("OrreryBoxModel$Scene", "wrap", "[I", true)
  | 7 => ("OrreryBoxModel$Scene", "soft", "[I", true)
  | 8 => ("OrreryBoxModel$Scene", "texel", "[I", true)
  | 9 => ("OrreryBoxModel$Scene", "colour", "[I", true)
  | 10 => ("OrreryBoxModel$Scene", "texture", "[I", true)
  | 11 => ("OrreryBoxModel$Scene", "both", "[I", true)
  | 12 => ("OrreryBoxModel$Scene", "material", "[I", true)
  | 13 => ("OrreryBoxModel$Scene", "points", "[I", true)
  | 14 => ("OrreryBoxModel$Scene", "faces", "[I", true)
  | 15 => ("OrreryBoxModel$Scene", "point", "[I", true)
  | 16 => ("OrreryBoxModel$Scene", "normal", "[I", true)
  | 17 => ("OrreryBoxModel$Scene", "spot", "[I", true)
  | 18 => ("OrreryBoxModel$Scene", "face", "[I", true)
  | 19 => ("OrreryBoxModel$Scene", "parent", "[I", true)
  | 20 => ("OrreryBoxModel$Scene", "mesh", "[I", true)
  | 21 => ("OrreryBoxModel$Scene", "move", "[I", true)
  | 22 => ("OrreryBoxModel$Scene", "turn", "[I", true)
  | 23 => ("OrreryBoxModel$Scene", "size", "[I", true)
  | 24 => ("OrreryBoxModel$Scene", "hidden", "[Z", true)
  | 25 => ("OrreryBoxModel$Scene", "trackNode", "[I", true)
  | 26 => ("OrreryBoxModel$Scene", "what", "[I", true)
  | 27 => ("OrreryBoxModel$Scene", "how", "[I", true)
  | 28 => ("OrreryBoxModel$Scene", "keys", "[I", true)
  | 29 => ("OrreryBoxModel$Scene", "when", "[I", true)
  | 30 => ("OrreryBoxModel$Scene", "value", "[I", true)
  | 31 => ("OrreryBoxModel$Scene", "cameraMove", "[I", true)
  | 32 => ("OrreryBoxModel$Scene", "cameraTurn", "[I", true)
  | 33 => ("OrreryBoxModel$Scene", "toward", "[I", true)
  | 34 => ("OrreryBoxModel$Scene", "focus", "I", false)
  | _ => ("OrreryBoxModel$Scene", "ambient", "I", false)
def zt_MScene : Nat → FieldType := fun k => match k with
  | 0 => .int
  | 1 => .int
  | 2 => .int
  | 3 => .int
  | 4 => .int
  | 5 => .array .int
  | 6 => .array .int
  | 7 => .array .int
  | 8 => .array .int
  | 9 => .array .int
  | 10 => .array .int
  | 11 => .array .int
  | 12 => .array .int
  | 13 => .array .int
  | 14 => .array .int
  | 15 => .array .int
  | 16 => .array .int
  | 17 => .array .int
  | 18 => .array .int
  | 19 => .array .int
  | 20 => .array .int
  | 21 => .array .int
  | 22 => .array .int
  | 23 => .array .int
  | 24 => .array .boolean
  | 25 => .array .int
  | 26 => .array .int
  | 27 => .array .int
  | 28 => .array .int
  | 29 => .array .int
  | 30 => .array .int
  | 31 => .array .int
  | 32 => .array .int
  | 33 => .array .int
  | 34 => .int
  | _ => .int
theorem zn_MScene : ∀ a, a < 36 → ∀ b, b < 36 → a ≠ b → (zT_MScene a).2.1 ≠ (zT_MScene b).2.1 := by decide +kernel
theorem zo_MScene : ∀ k, k < 36 → parseFieldDescriptor (zT_MScene k).2.2.1 = some (zt_MScene k) := by decide +kernel
abbrev classes : List vw_C := [("OrreryBox", zT_OB, 12), ("OrreryBoxModel", zT_MD, 20), ("OrreryBox$Mesh", zT_XMesh, 7), ("OrreryBox$Node", zT_XNode, 6), ("OrreryBox$Packer", zT_XPacker, 11), ("OrreryBox$Picture", zT_XPicture, 18), ("OrreryBox$Piece", zT_XPiece, 6), ("OrreryBox$Reader", zT_XReader, 8), ("OrreryBox$Scene", zT_XScene, 11), ("OrreryBox$Sight", zT_XSight, 15), ("OrreryBox$Texture", zT_XTexture, 6), ("OrreryBox$Track", zT_XTrack, 6), ("OrreryBoxModel$Packer", zT_MPacker, 7), ("OrreryBoxModel$Painter", zT_MPainter, 31), ("OrreryBoxModel$Reader", zT_MReader, 11), ("OrreryBoxModel$Scene", zT_MScene, 36)]
def zk_ty (ci : Nat) : Nat → FieldType := match ci with
  | 0 => zt_OB
  | 1 => zt_MD
  | 2 => zt_XMesh
  | 3 => zt_XNode
  | 4 => zt_XPacker
  | 5 => zt_XPicture
  | 6 => zt_XPiece
  | 7 => zt_XReader
  | 8 => zt_XScene
  | 9 => zt_XSight
  | 10 => zt_XTexture
  | 11 => zt_XTrack
  | 12 => zt_MPacker
  | 13 => zt_MPainter
  | 14 => zt_MReader
  | _ => zt_MScene
def zb_nest : Cond → Bool
  | .fieldLinkNest .. => true
  | .methodLinkNest .. => true
  | .declares .. => true
  | .castable .. => true
  | _ => false
def gw : List Cond := lw_tbl.filter goodWord
def gn : List Cond := lw_tbl.filter zb_nest
theorem gw_t {w : Cond} (i : Nat) (h : tables_1[i]? = some w) (hg : goodWord w = true) : w ∈ gw := List.mem_filter.mpr ⟨List.mem_append_right _ (List.mem_of_getElem? h), hg⟩
theorem gw_s {w : Cond} (i : Nat) (h : (k2_sels lw_privs)[i]? = some w) (hg : goodWord w = true) : w ∈ gw := List.mem_filter.mpr ⟨List.mem_append_left _ (List.mem_of_getElem? h), hg⟩
theorem gn_t {w : Cond} (i : Nat) (h : tables_1[i]? = some w) (hg : zb_nest w = true) : w ∈ gn := List.mem_filter.mpr ⟨List.mem_append_right _ (List.mem_of_getElem? h), hg⟩
theorem zi_OB_0 : u_lay "OrreryBox" zT_OB 0 ∈ gw := gw_t 500 (by decide +kernel) rfl
theorem zi_OB_1 : u_lay "OrreryBox" zT_OB 1 ∈ gw := gw_t 502 (by decide +kernel) rfl
theorem zi_OB_2 : u_lay "OrreryBox" zT_OB 2 ∈ gw := gw_t 504 (by decide +kernel) rfl
theorem zi_OB_3 : u_lay "OrreryBox" zT_OB 3 ∈ gw := gw_t 506 (by decide +kernel) rfl
theorem zi_OB_4 : u_lay "OrreryBox" zT_OB 4 ∈ gw := gw_t 508 (by decide +kernel) rfl
theorem zi_OB_5 : u_lay "OrreryBox" zT_OB 5 ∈ gw := gw_t 510 (by decide +kernel) rfl
theorem zi_OB_6 : u_lay "OrreryBox" zT_OB 6 ∈ gw := gw_t 512 (by decide +kernel) rfl
theorem zi_OB_7 : u_lay "OrreryBox" zT_OB 7 ∈ gw := gw_t 514 (by decide +kernel) rfl
theorem zi_OB_8 : u_lay "OrreryBox" zT_OB 8 ∈ gw := gw_t 516 (by decide +kernel) rfl
theorem zi_OB_9 : u_lay "OrreryBox" zT_OB 9 ∈ gw := gw_t 518 (by decide +kernel) rfl
theorem zi_OB_10 : u_lay "OrreryBox" zT_OB 10 ∈ gw := gw_t 520 (by decide +kernel) rfl
theorem zi_OB_11 : u_lay "OrreryBox" zT_OB 11 ∈ gw := gw_t 522 (by decide +kernel) rfl
theorem zi_OB : ∀ w ∈ u_ws "OrreryBox" zT_OB 12, w ∈ gw := by
  intro w hw
  obtain ⟨k, hk, rfl⟩ := List.mem_map.mp hw
  have hk := List.mem_range.mp hk
  match k, hk with
  | 0, _ => exact zi_OB_0
  | 1, _ => exact zi_OB_1
  | 2, _ => exact zi_OB_2
  | 3, _ => exact zi_OB_3
  | 4, _ => exact zi_OB_4
  | 5, _ => exact zi_OB_5
  | 6, _ => exact zi_OB_6
  | 7, _ => exact zi_OB_7
  | 8, _ => exact zi_OB_8
  | 9, _ => exact zi_OB_9
  | 10, _ => exact zi_OB_10
  | 11, _ => exact zi_OB_11
  | k + 12, h => exact absurd h (by omega)
theorem zi_MD_0 : u_lay "OrreryBoxModel" zT_MD 0 ∈ gw := gw_t 1700 (by decide +kernel) rfl
theorem zi_MD_1 : u_lay "OrreryBoxModel" zT_MD 1 ∈ gw := gw_t 1702 (by decide +kernel) rfl
theorem zi_MD_2 : u_lay "OrreryBoxModel" zT_MD 2 ∈ gw := gw_t 1704 (by decide +kernel) rfl
theorem zi_MD_3 : u_lay "OrreryBoxModel" zT_MD 3 ∈ gw := gw_t 1706 (by decide +kernel) rfl
theorem zi_MD_4 : u_lay "OrreryBoxModel" zT_MD 4 ∈ gw := gw_t 1708 (by decide +kernel) rfl
theorem zi_MD_5 : u_lay "OrreryBoxModel" zT_MD 5 ∈ gw := gw_t 1710 (by decide +kernel) rfl
theorem zi_MD_6 : u_lay "OrreryBoxModel" zT_MD 6 ∈ gw := gw_t 1712 (by decide +kernel) rfl
theorem zi_MD_7 : u_lay "OrreryBoxModel" zT_MD 7 ∈ gw := gw_t 1714 (by decide +kernel) rfl
theorem zi_MD_8 : u_lay "OrreryBoxModel" zT_MD 8 ∈ gw := gw_t 1716 (by decide +kernel) rfl
theorem zi_MD_9 : u_lay "OrreryBoxModel" zT_MD 9 ∈ gw := gw_t 1718 (by decide +kernel) rfl
theorem zi_MD_10 : u_lay "OrreryBoxModel" zT_MD 10 ∈ gw := gw_t 1720 (by decide +kernel) rfl
theorem zi_MD_11 : u_lay "OrreryBoxModel" zT_MD 11 ∈ gw := gw_t 1722 (by decide +kernel) rfl
theorem zi_MD_12 : u_lay "OrreryBoxModel" zT_MD 12 ∈ gw := gw_t 1724 (by decide +kernel) rfl
theorem zi_MD_13 : u_lay "OrreryBoxModel" zT_MD 13 ∈ gw := gw_t 1726 (by decide +kernel) rfl
theorem zi_MD_14 : u_lay "OrreryBoxModel" zT_MD 14 ∈ gw := gw_t 1728 (by decide +kernel) rfl
theorem zi_MD_15 : u_lay "OrreryBoxModel" zT_MD 15 ∈ gw := gw_t 1730 (by decide +kernel) rfl
theorem zi_MD_16 : u_lay "OrreryBoxModel" zT_MD 16 ∈ gw := gw_t 1732 (by decide +kernel) rfl
theorem zi_MD_17 : u_lay "OrreryBoxModel" zT_MD 17 ∈ gw := gw_t 1734 (by decide +kernel) rfl
theorem zi_MD_18 : u_lay "OrreryBoxModel" zT_MD 18 ∈ gw := gw_t 1736 (by decide +kernel) rfl
theorem zi_MD_19 : u_lay "OrreryBoxModel" zT_MD 19 ∈ gw := gw_t 1738 (by decide +kernel) rfl
theorem zi_MD : ∀ w ∈ u_ws "OrreryBoxModel" zT_MD 20, w ∈ gw := by
  intro w hw
  obtain ⟨k, hk, rfl⟩ := List.mem_map.mp hw
  have hk := List.mem_range.mp hk
  match k, hk with
  | 0, _ => exact zi_MD_0
  | 1, _ => exact zi_MD_1
  | 2, _ => exact zi_MD_2
  | 3, _ => exact zi_MD_3
  | 4, _ => exact zi_MD_4
  | 5, _ => exact zi_MD_5
  | 6, _ => exact zi_MD_6
  | 7, _ => exact zi_MD_7
  | 8, _ => exact zi_MD_8
  | 9, _ => exact zi_MD_9
  | 10, _ => exact zi_MD_10
  | 11, _ => exact zi_MD_11
  | 12, _ => exact zi_MD_12
  | 13, _ => exact zi_MD_13
  | 14, _ => exact zi_MD_14
  | 15, _ => exact zi_MD_15
  | 16, _ => exact zi_MD_16
  | 17, _ => exact zi_MD_17
  | 18, _ => exact zi_MD_18
  | 19, _ => exact zi_MD_19
  | k + 20, h => exact absurd h (by omega)
theorem zi_XMesh_0 : u_lay "OrreryBox$Mesh" zT_XMesh 0 ∈ gw := gw_t 194 (by decide +kernel) rfl
theorem zi_XMesh_1 : u_lay "OrreryBox$Mesh" zT_XMesh 1 ∈ gw := gw_t 196 (by decide +kernel) rfl
theorem zi_XMesh_2 : u_lay "OrreryBox$Mesh" zT_XMesh 2 ∈ gw := gw_t 198 (by decide +kernel) rfl
theorem zi_XMesh_3 : u_lay "OrreryBox$Mesh" zT_XMesh 3 ∈ gw := gw_t 200 (by decide +kernel) rfl
theorem zi_XMesh_4 : u_lay "OrreryBox$Mesh" zT_XMesh 4 ∈ gw := gw_t 202 (by decide +kernel) rfl
theorem zi_XMesh_5 : u_lay "OrreryBox$Mesh" zT_XMesh 5 ∈ gw := gw_t 204 (by decide +kernel) rfl
theorem zi_XMesh_6 : u_lay "OrreryBox$Mesh" zT_XMesh 6 ∈ gw := gw_t 206 (by decide +kernel) rfl
theorem zi_XMesh : ∀ w ∈ u_ws "OrreryBox$Mesh" zT_XMesh 7, w ∈ gw := by
  intro w hw
  obtain ⟨k, hk, rfl⟩ := List.mem_map.mp hw
  have hk := List.mem_range.mp hk
  match k, hk with
  | 0, _ => exact zi_XMesh_0
  | 1, _ => exact zi_XMesh_1
  | 2, _ => exact zi_XMesh_2
  | 3, _ => exact zi_XMesh_3
  | 4, _ => exact zi_XMesh_4
  | 5, _ => exact zi_XMesh_5
  | 6, _ => exact zi_XMesh_6
  | k + 7, h => exact absurd h (by omega)
theorem zi_XNode_0 : u_lay "OrreryBox$Node" zT_XNode 0 ∈ gw := gw_t 233 (by decide +kernel) rfl
theorem zi_XNode_1 : u_lay "OrreryBox$Node" zT_XNode 1 ∈ gw := gw_t 235 (by decide +kernel) rfl
theorem zi_XNode_2 : u_lay "OrreryBox$Node" zT_XNode 2 ∈ gw := gw_t 237 (by decide +kernel) rfl
theorem zi_XNode_3 : u_lay "OrreryBox$Node" zT_XNode 3 ∈ gw := gw_t 239 (by decide +kernel) rfl
theorem zi_XNode_4 : u_lay "OrreryBox$Node" zT_XNode 4 ∈ gw := gw_t 241 (by decide +kernel) rfl
theorem zi_XNode_5 : u_lay "OrreryBox$Node" zT_XNode 5 ∈ gw := gw_t 243 (by decide +kernel) rfl
theorem zi_XNode : ∀ w ∈ u_ws "OrreryBox$Node" zT_XNode 6, w ∈ gw := by
  intro w hw
  obtain ⟨k, hk, rfl⟩ := List.mem_map.mp hw
  have hk := List.mem_range.mp hk
  match k, hk with
  | 0, _ => exact zi_XNode_0
  | 1, _ => exact zi_XNode_1
  | 2, _ => exact zi_XNode_2
  | 3, _ => exact zi_XNode_3
  | 4, _ => exact zi_XNode_4
  | 5, _ => exact zi_XNode_5
  | k + 6, h => exact absurd h (by omega)
theorem zi_XPacker_0 : u_lay "OrreryBox$Packer" zT_XPacker 0 ∈ gw := gw_t 94 (by decide +kernel) rfl
theorem zi_XPacker_1 : u_lay "OrreryBox$Packer" zT_XPacker 1 ∈ gw := gw_t 96 (by decide +kernel) rfl
theorem zi_XPacker_2 : u_lay "OrreryBox$Packer" zT_XPacker 2 ∈ gw := gw_t 98 (by decide +kernel) rfl
theorem zi_XPacker_3 : u_lay "OrreryBox$Packer" zT_XPacker 3 ∈ gw := gw_t 100 (by decide +kernel) rfl
theorem zi_XPacker_4 : u_lay "OrreryBox$Packer" zT_XPacker 4 ∈ gw := gw_t 102 (by decide +kernel) rfl
theorem zi_XPacker_5 : u_lay "OrreryBox$Packer" zT_XPacker 5 ∈ gw := gw_t 104 (by decide +kernel) rfl
theorem zi_XPacker_6 : u_lay "OrreryBox$Packer" zT_XPacker 6 ∈ gw := gw_t 106 (by decide +kernel) rfl
theorem zi_XPacker_7 : u_lay "OrreryBox$Packer" zT_XPacker 7 ∈ gw := gw_t 108 (by decide +kernel) rfl
theorem zi_XPacker_8 : u_lay "OrreryBox$Packer" zT_XPacker 8 ∈ gw := gw_t 110 (by decide +kernel) rfl
theorem zi_XPacker_9 : u_lay "OrreryBox$Packer" zT_XPacker 9 ∈ gw := gw_t 112 (by decide +kernel) rfl
theorem zi_XPacker_10 : u_lay "OrreryBox$Packer" zT_XPacker 10 ∈ gw := gw_t 114 (by decide +kernel) rfl
theorem zi_XPacker : ∀ w ∈ u_ws "OrreryBox$Packer" zT_XPacker 11, w ∈ gw := by
  intro w hw
  obtain ⟨k, hk, rfl⟩ := List.mem_map.mp hw
  have hk := List.mem_range.mp hk
  match k, hk with
  | 0, _ => exact zi_XPacker_0
  | 1, _ => exact zi_XPacker_1
  | 2, _ => exact zi_XPacker_2
  | 3, _ => exact zi_XPacker_3
  | 4, _ => exact zi_XPacker_4
  | 5, _ => exact zi_XPacker_5
  | 6, _ => exact zi_XPacker_6
  | 7, _ => exact zi_XPacker_7
  | 8, _ => exact zi_XPacker_8
  | 9, _ => exact zi_XPacker_9
  | 10, _ => exact zi_XPacker_10
  | k + 11, h => exact absurd h (by omega)
theorem zi_XPicture_0 : u_lay "OrreryBox$Picture" zT_XPicture 0 ∈ gw := gw_t 451 (by decide +kernel) rfl
theorem zi_XPicture_1 : u_lay "OrreryBox$Picture" zT_XPicture 1 ∈ gw := gw_t 453 (by decide +kernel) rfl
theorem zi_XPicture_2 : u_lay "OrreryBox$Picture" zT_XPicture 2 ∈ gw := gw_t 455 (by decide +kernel) rfl
theorem zi_XPicture_3 : u_lay "OrreryBox$Picture" zT_XPicture 3 ∈ gw := gw_t 457 (by decide +kernel) rfl
theorem zi_XPicture_4 : u_lay "OrreryBox$Picture" zT_XPicture 4 ∈ gw := gw_t 459 (by decide +kernel) rfl
theorem zi_XPicture_5 : u_lay "OrreryBox$Picture" zT_XPicture 5 ∈ gw := gw_t 461 (by decide +kernel) rfl
theorem zi_XPicture_6 : u_lay "OrreryBox$Picture" zT_XPicture 6 ∈ gw := gw_t 463 (by decide +kernel) rfl
theorem zi_XPicture_7 : u_lay "OrreryBox$Picture" zT_XPicture 7 ∈ gw := gw_t 465 (by decide +kernel) rfl
theorem zi_XPicture_8 : u_lay "OrreryBox$Picture" zT_XPicture 8 ∈ gw := gw_t 467 (by decide +kernel) rfl
theorem zi_XPicture_9 : u_lay "OrreryBox$Picture" zT_XPicture 9 ∈ gw := gw_t 469 (by decide +kernel) rfl
theorem zi_XPicture_10 : u_lay "OrreryBox$Picture" zT_XPicture 10 ∈ gw := gw_t 471 (by decide +kernel) rfl
theorem zi_XPicture_11 : u_lay "OrreryBox$Picture" zT_XPicture 11 ∈ gw := gw_t 473 (by decide +kernel) rfl
theorem zi_XPicture_12 : u_lay "OrreryBox$Picture" zT_XPicture 12 ∈ gw := gw_t 475 (by decide +kernel) rfl
theorem zi_XPicture_13 : u_lay "OrreryBox$Picture" zT_XPicture 13 ∈ gw := gw_t 477 (by decide +kernel) rfl
theorem zi_XPicture_14 : u_lay "OrreryBox$Picture" zT_XPicture 14 ∈ gw := gw_t 479 (by decide +kernel) rfl
theorem zi_XPicture_15 : u_lay "OrreryBox$Picture" zT_XPicture 15 ∈ gw := gw_t 481 (by decide +kernel) rfl
theorem zi_XPicture_16 : u_lay "OrreryBox$Picture" zT_XPicture 16 ∈ gw := gw_t 483 (by decide +kernel) rfl
theorem zi_XPicture_17 : u_lay "OrreryBox$Picture" zT_XPicture 17 ∈ gw := gw_t 485 (by decide +kernel) rfl
theorem zi_XPicture : ∀ w ∈ u_ws "OrreryBox$Picture" zT_XPicture 18, w ∈ gw := by
  intro w hw
  obtain ⟨k, hk, rfl⟩ := List.mem_map.mp hw
  have hk := List.mem_range.mp hk
  match k, hk with
  | 0, _ => exact zi_XPicture_0
  | 1, _ => exact zi_XPicture_1
  | 2, _ => exact zi_XPicture_2
  | 3, _ => exact zi_XPicture_3
  | 4, _ => exact zi_XPicture_4
  | 5, _ => exact zi_XPicture_5
  | 6, _ => exact zi_XPicture_6
  | 7, _ => exact zi_XPicture_7
  | 8, _ => exact zi_XPicture_8
  | 9, _ => exact zi_XPicture_9
  | 10, _ => exact zi_XPicture_10
  | 11, _ => exact zi_XPicture_11
  | 12, _ => exact zi_XPicture_12
  | 13, _ => exact zi_XPicture_13
  | 14, _ => exact zi_XPicture_14
  | 15, _ => exact zi_XPicture_15
  | 16, _ => exact zi_XPicture_16
  | 17, _ => exact zi_XPicture_17
  | k + 18, h => exact absurd h (by omega)
theorem zi_XPiece_0 : u_lay "OrreryBox$Piece" zT_XPiece 0 ∈ gw := gw_t 356 (by decide +kernel) rfl
theorem zi_XPiece_1 : u_lay "OrreryBox$Piece" zT_XPiece 1 ∈ gw := gw_t 358 (by decide +kernel) rfl
theorem zi_XPiece_2 : u_lay "OrreryBox$Piece" zT_XPiece 2 ∈ gw := gw_t 360 (by decide +kernel) rfl
theorem zi_XPiece_3 : u_lay "OrreryBox$Piece" zT_XPiece 3 ∈ gw := gw_t 362 (by decide +kernel) rfl
theorem zi_XPiece_4 : u_lay "OrreryBox$Piece" zT_XPiece 4 ∈ gw := gw_t 364 (by decide +kernel) rfl
theorem zi_XPiece_5 : u_lay "OrreryBox$Piece" zT_XPiece 5 ∈ gw := gw_t 366 (by decide +kernel) rfl
theorem zi_XPiece : ∀ w ∈ u_ws "OrreryBox$Piece" zT_XPiece 6, w ∈ gw := by
  intro w hw
  obtain ⟨k, hk, rfl⟩ := List.mem_map.mp hw
  have hk := List.mem_range.mp hk
  match k, hk with
  | 0, _ => exact zi_XPiece_0
  | 1, _ => exact zi_XPiece_1
  | 2, _ => exact zi_XPiece_2
  | 3, _ => exact zi_XPiece_3
  | 4, _ => exact zi_XPiece_4
  | 5, _ => exact zi_XPiece_5
  | k + 6, h => exact absurd h (by omega)
theorem zi_XReader_0 : u_lay "OrreryBox$Reader" zT_XReader 0 ∈ gw := gw_t 56 (by decide +kernel) rfl
theorem zi_XReader_1 : u_lay "OrreryBox$Reader" zT_XReader 1 ∈ gw := gw_t 58 (by decide +kernel) rfl
theorem zi_XReader_2 : u_lay "OrreryBox$Reader" zT_XReader 2 ∈ gw := gw_t 60 (by decide +kernel) rfl
theorem zi_XReader_3 : u_lay "OrreryBox$Reader" zT_XReader 3 ∈ gw := gw_t 62 (by decide +kernel) rfl
theorem zi_XReader_4 : u_lay "OrreryBox$Reader" zT_XReader 4 ∈ gw := gw_t 64 (by decide +kernel) rfl
theorem zi_XReader_5 : u_lay "OrreryBox$Reader" zT_XReader 5 ∈ gw := gw_t 66 (by decide +kernel) rfl
theorem zi_XReader_6 : u_lay "OrreryBox$Reader" zT_XReader 6 ∈ gw := gw_t 68 (by decide +kernel) rfl
theorem zi_XReader_7 : u_lay "OrreryBox$Reader" zT_XReader 7 ∈ gw := gw_t 70 (by decide +kernel) rfl
theorem zi_XReader : ∀ w ∈ u_ws "OrreryBox$Reader" zT_XReader 8, w ∈ gw := by
  intro w hw
  obtain ⟨k, hk, rfl⟩ := List.mem_map.mp hw
  have hk := List.mem_range.mp hk
  match k, hk with
  | 0, _ => exact zi_XReader_0
  | 1, _ => exact zi_XReader_1
  | 2, _ => exact zi_XReader_2
  | 3, _ => exact zi_XReader_3
  | 4, _ => exact zi_XReader_4
  | 5, _ => exact zi_XReader_5
  | 6, _ => exact zi_XReader_6
  | 7, _ => exact zi_XReader_7
  | k + 8, h => exact absurd h (by omega)
theorem zi_XScene_0 : u_lay "OrreryBox$Scene" zT_XScene 0 ∈ gw := gw_t 314 (by decide +kernel) rfl
theorem zi_XScene_1 : u_lay "OrreryBox$Scene" zT_XScene 1 ∈ gw := gw_t 316 (by decide +kernel) rfl
theorem zi_XScene_2 : u_lay "OrreryBox$Scene" zT_XScene 2 ∈ gw := gw_t 318 (by decide +kernel) rfl
theorem zi_XScene_3 : u_lay "OrreryBox$Scene" zT_XScene 3 ∈ gw := gw_t 320 (by decide +kernel) rfl
theorem zi_XScene_4 : u_lay "OrreryBox$Scene" zT_XScene 4 ∈ gw := gw_t 322 (by decide +kernel) rfl
theorem zi_XScene_5 : u_lay "OrreryBox$Scene" zT_XScene 5 ∈ gw := gw_t 324 (by decide +kernel) rfl
theorem zi_XScene_6 : u_lay "OrreryBox$Scene" zT_XScene 6 ∈ gw := gw_t 326 (by decide +kernel) rfl
theorem zi_XScene_7 : u_lay "OrreryBox$Scene" zT_XScene 7 ∈ gw := gw_t 328 (by decide +kernel) rfl
theorem zi_XScene_8 : u_lay "OrreryBox$Scene" zT_XScene 8 ∈ gw := gw_t 330 (by decide +kernel) rfl
theorem zi_XScene_9 : u_lay "OrreryBox$Scene" zT_XScene 9 ∈ gw := gw_t 332 (by decide +kernel) rfl
theorem zi_XScene_10 : u_lay "OrreryBox$Scene" zT_XScene 10 ∈ gw := gw_t 334 (by decide +kernel) rfl
theorem zi_XScene : ∀ w ∈ u_ws "OrreryBox$Scene" zT_XScene 11, w ∈ gw := by
  intro w hw
  obtain ⟨k, hk, rfl⟩ := List.mem_map.mp hw
  have hk := List.mem_range.mp hk
  match k, hk with
  | 0, _ => exact zi_XScene_0
  | 1, _ => exact zi_XScene_1
  | 2, _ => exact zi_XScene_2
  | 3, _ => exact zi_XScene_3
  | 4, _ => exact zi_XScene_4
  | 5, _ => exact zi_XScene_5
  | 6, _ => exact zi_XScene_6
  | 7, _ => exact zi_XScene_7
  | 8, _ => exact zi_XScene_8
  | 9, _ => exact zi_XScene_9
  | 10, _ => exact zi_XScene_10
  | k + 11, h => exact absurd h (by omega)
theorem zi_XSight_0 : u_lay "OrreryBox$Sight" zT_XSight 0 ∈ gw := gw_t 388 (by decide +kernel) rfl
theorem zi_XSight_1 : u_lay "OrreryBox$Sight" zT_XSight 1 ∈ gw := gw_t 390 (by decide +kernel) rfl
theorem zi_XSight_2 : u_lay "OrreryBox$Sight" zT_XSight 2 ∈ gw := gw_t 392 (by decide +kernel) rfl
theorem zi_XSight_3 : u_lay "OrreryBox$Sight" zT_XSight 3 ∈ gw := gw_t 394 (by decide +kernel) rfl
theorem zi_XSight_4 : u_lay "OrreryBox$Sight" zT_XSight 4 ∈ gw := gw_t 396 (by decide +kernel) rfl
theorem zi_XSight_5 : u_lay "OrreryBox$Sight" zT_XSight 5 ∈ gw := gw_t 398 (by decide +kernel) rfl
theorem zi_XSight_6 : u_lay "OrreryBox$Sight" zT_XSight 6 ∈ gw := gw_t 400 (by decide +kernel) rfl
theorem zi_XSight_7 : u_lay "OrreryBox$Sight" zT_XSight 7 ∈ gw := gw_t 402 (by decide +kernel) rfl
theorem zi_XSight_8 : u_lay "OrreryBox$Sight" zT_XSight 8 ∈ gw := gw_t 404 (by decide +kernel) rfl
theorem zi_XSight_9 : u_lay "OrreryBox$Sight" zT_XSight 9 ∈ gw := gw_t 406 (by decide +kernel) rfl
theorem zi_XSight_10 : u_lay "OrreryBox$Sight" zT_XSight 10 ∈ gw := gw_t 408 (by decide +kernel) rfl
theorem zi_XSight_11 : u_lay "OrreryBox$Sight" zT_XSight 11 ∈ gw := gw_t 410 (by decide +kernel) rfl
theorem zi_XSight_12 : u_lay "OrreryBox$Sight" zT_XSight 12 ∈ gw := gw_t 412 (by decide +kernel) rfl
theorem zi_XSight_13 : u_lay "OrreryBox$Sight" zT_XSight 13 ∈ gw := gw_t 414 (by decide +kernel) rfl
theorem zi_XSight_14 : u_lay "OrreryBox$Sight" zT_XSight 14 ∈ gw := gw_t 416 (by decide +kernel) rfl
theorem zi_XSight : ∀ w ∈ u_ws "OrreryBox$Sight" zT_XSight 15, w ∈ gw := by
  intro w hw
  obtain ⟨k, hk, rfl⟩ := List.mem_map.mp hw
  have hk := List.mem_range.mp hk
  match k, hk with
  | 0, _ => exact zi_XSight_0
  | 1, _ => exact zi_XSight_1
  | 2, _ => exact zi_XSight_2
  | 3, _ => exact zi_XSight_3
  | 4, _ => exact zi_XSight_4
  | 5, _ => exact zi_XSight_5
  | 6, _ => exact zi_XSight_6
  | 7, _ => exact zi_XSight_7
  | 8, _ => exact zi_XSight_8
  | 9, _ => exact zi_XSight_9
  | 10, _ => exact zi_XSight_10
  | 11, _ => exact zi_XSight_11
  | 12, _ => exact zi_XSight_12
  | 13, _ => exact zi_XSight_13
  | 14, _ => exact zi_XSight_14
  | k + 15, h => exact absurd h (by omega)
theorem zi_XTexture_0 : u_lay "OrreryBox$Texture" zT_XTexture 0 ∈ gw := gw_t 157 (by decide +kernel) rfl
theorem zi_XTexture_1 : u_lay "OrreryBox$Texture" zT_XTexture 1 ∈ gw := gw_t 159 (by decide +kernel) rfl
theorem zi_XTexture_2 : u_lay "OrreryBox$Texture" zT_XTexture 2 ∈ gw := gw_t 161 (by decide +kernel) rfl
theorem zi_XTexture_3 : u_lay "OrreryBox$Texture" zT_XTexture 3 ∈ gw := gw_t 163 (by decide +kernel) rfl
theorem zi_XTexture_4 : u_lay "OrreryBox$Texture" zT_XTexture 4 ∈ gw := gw_t 165 (by decide +kernel) rfl
theorem zi_XTexture_5 : u_lay "OrreryBox$Texture" zT_XTexture 5 ∈ gw := gw_t 167 (by decide +kernel) rfl
theorem zi_XTexture : ∀ w ∈ u_ws "OrreryBox$Texture" zT_XTexture 6, w ∈ gw := by
  intro w hw
  obtain ⟨k, hk, rfl⟩ := List.mem_map.mp hw
  have hk := List.mem_range.mp hk
  match k, hk with
  | 0, _ => exact zi_XTexture_0
  | 1, _ => exact zi_XTexture_1
  | 2, _ => exact zi_XTexture_2
  | 3, _ => exact zi_XTexture_3
  | 4, _ => exact zi_XTexture_4
  | 5, _ => exact zi_XTexture_5
  | k + 6, h => exact absurd h (by omega)
theorem zi_XTrack_0 : u_lay "OrreryBox$Track" zT_XTrack 0 ∈ gw := gw_t 263 (by decide +kernel) rfl
theorem zi_XTrack_1 : u_lay "OrreryBox$Track" zT_XTrack 1 ∈ gw := gw_t 265 (by decide +kernel) rfl
theorem zi_XTrack_2 : u_lay "OrreryBox$Track" zT_XTrack 2 ∈ gw := gw_t 267 (by decide +kernel) rfl
theorem zi_XTrack_3 : u_lay "OrreryBox$Track" zT_XTrack 3 ∈ gw := gw_t 269 (by decide +kernel) rfl
theorem zi_XTrack_4 : u_lay "OrreryBox$Track" zT_XTrack 4 ∈ gw := gw_t 271 (by decide +kernel) rfl
theorem zi_XTrack_5 : u_lay "OrreryBox$Track" zT_XTrack 5 ∈ gw := gw_t 273 (by decide +kernel) rfl
theorem zi_XTrack : ∀ w ∈ u_ws "OrreryBox$Track" zT_XTrack 6, w ∈ gw := by
  intro w hw
  obtain ⟨k, hk, rfl⟩ := List.mem_map.mp hw
  have hk := List.mem_range.mp hk
  match k, hk with
  | 0, _ => exact zi_XTrack_0
  | 1, _ => exact zi_XTrack_1
  | 2, _ => exact zi_XTrack_2
  | 3, _ => exact zi_XTrack_3
  | 4, _ => exact zi_XTrack_4
  | 5, _ => exact zi_XTrack_5
  | k + 6, h => exact absurd h (by omega)
theorem zi_MPacker_0 : u_lay "OrreryBoxModel$Packer" zT_MPacker 0 ∈ gw := gw_t 1555 (by decide +kernel) rfl
theorem zi_MPacker_1 : u_lay "OrreryBoxModel$Packer" zT_MPacker 1 ∈ gw := gw_t 1557 (by decide +kernel) rfl
theorem zi_MPacker_2 : u_lay "OrreryBoxModel$Packer" zT_MPacker 2 ∈ gw := gw_t 1559 (by decide +kernel) rfl
theorem zi_MPacker_3 : u_lay "OrreryBoxModel$Packer" zT_MPacker 3 ∈ gw := gw_t 1561 (by decide +kernel) rfl
theorem zi_MPacker_4 : u_lay "OrreryBoxModel$Packer" zT_MPacker 4 ∈ gw := gw_t 1563 (by decide +kernel) rfl
theorem zi_MPacker_5 : u_lay "OrreryBoxModel$Packer" zT_MPacker 5 ∈ gw := gw_t 1565 (by decide +kernel) rfl
theorem zi_MPacker_6 : u_lay "OrreryBoxModel$Packer" zT_MPacker 6 ∈ gw := gw_t 1567 (by decide +kernel) rfl
theorem zi_MPacker : ∀ w ∈ u_ws "OrreryBoxModel$Packer" zT_MPacker 7, w ∈ gw := by
  intro w hw
  obtain ⟨k, hk, rfl⟩ := List.mem_map.mp hw
  have hk := List.mem_range.mp hk
  match k, hk with
  | 0, _ => exact zi_MPacker_0
  | 1, _ => exact zi_MPacker_1
  | 2, _ => exact zi_MPacker_2
  | 3, _ => exact zi_MPacker_3
  | 4, _ => exact zi_MPacker_4
  | 5, _ => exact zi_MPacker_5
  | 6, _ => exact zi_MPacker_6
  | k + 7, h => exact absurd h (by omega)
theorem zi_MPainter_0 : u_lay "OrreryBoxModel$Painter" zT_MPainter 0 ∈ gw := gw_t 1611 (by decide +kernel) rfl
theorem zi_MPainter_1 : u_lay "OrreryBoxModel$Painter" zT_MPainter 1 ∈ gw := gw_t 1613 (by decide +kernel) rfl
theorem zi_MPainter_2 : u_lay "OrreryBoxModel$Painter" zT_MPainter 2 ∈ gw := gw_t 1615 (by decide +kernel) rfl
theorem zi_MPainter_3 : u_lay "OrreryBoxModel$Painter" zT_MPainter 3 ∈ gw := gw_t 1617 (by decide +kernel) rfl
theorem zi_MPainter_4 : u_lay "OrreryBoxModel$Painter" zT_MPainter 4 ∈ gw := gw_t 1619 (by decide +kernel) rfl
theorem zi_MPainter_5 : u_lay "OrreryBoxModel$Painter" zT_MPainter 5 ∈ gw := gw_t 1621 (by decide +kernel) rfl
theorem zi_MPainter_6 : u_lay "OrreryBoxModel$Painter" zT_MPainter 6 ∈ gw := gw_t 1623 (by decide +kernel) rfl
theorem zi_MPainter_7 : u_lay "OrreryBoxModel$Painter" zT_MPainter 7 ∈ gw := gw_t 1625 (by decide +kernel) rfl
theorem zi_MPainter_8 : u_lay "OrreryBoxModel$Painter" zT_MPainter 8 ∈ gw := gw_t 1627 (by decide +kernel) rfl
theorem zi_MPainter_9 : u_lay "OrreryBoxModel$Painter" zT_MPainter 9 ∈ gw := gw_t 1629 (by decide +kernel) rfl
theorem zi_MPainter_10 : u_lay "OrreryBoxModel$Painter" zT_MPainter 10 ∈ gw := gw_t 1631 (by decide +kernel) rfl
theorem zi_MPainter_11 : u_lay "OrreryBoxModel$Painter" zT_MPainter 11 ∈ gw := gw_t 1633 (by decide +kernel) rfl
theorem zi_MPainter_12 : u_lay "OrreryBoxModel$Painter" zT_MPainter 12 ∈ gw := gw_t 1635 (by decide +kernel) rfl
theorem zi_MPainter_13 : u_lay "OrreryBoxModel$Painter" zT_MPainter 13 ∈ gw := gw_t 1637 (by decide +kernel) rfl
theorem zi_MPainter_14 : u_lay "OrreryBoxModel$Painter" zT_MPainter 14 ∈ gw := gw_t 1639 (by decide +kernel) rfl
theorem zi_MPainter_15 : u_lay "OrreryBoxModel$Painter" zT_MPainter 15 ∈ gw := gw_t 1641 (by decide +kernel) rfl
theorem zi_MPainter_16 : u_lay "OrreryBoxModel$Painter" zT_MPainter 16 ∈ gw := gw_t 1643 (by decide +kernel) rfl
theorem zi_MPainter_17 : u_lay "OrreryBoxModel$Painter" zT_MPainter 17 ∈ gw := gw_t 1645 (by decide +kernel) rfl
theorem zi_MPainter_18 : u_lay "OrreryBoxModel$Painter" zT_MPainter 18 ∈ gw := gw_t 1647 (by decide +kernel) rfl
theorem zi_MPainter_19 : u_lay "OrreryBoxModel$Painter" zT_MPainter 19 ∈ gw := gw_t 1649 (by decide +kernel) rfl
theorem zi_MPainter_20 : u_lay "OrreryBoxModel$Painter" zT_MPainter 20 ∈ gw := gw_t 1651 (by decide +kernel) rfl
theorem zi_MPainter_21 : u_lay "OrreryBoxModel$Painter" zT_MPainter 21 ∈ gw := gw_t 1653 (by decide +kernel) rfl
theorem zi_MPainter_22 : u_lay "OrreryBoxModel$Painter" zT_MPainter 22 ∈ gw := gw_t 1655 (by decide +kernel) rfl
theorem zi_MPainter_23 : u_lay "OrreryBoxModel$Painter" zT_MPainter 23 ∈ gw := gw_t 1657 (by decide +kernel) rfl
theorem zi_MPainter_24 : u_lay "OrreryBoxModel$Painter" zT_MPainter 24 ∈ gw := gw_t 1659 (by decide +kernel) rfl
theorem zi_MPainter_25 : u_lay "OrreryBoxModel$Painter" zT_MPainter 25 ∈ gw := gw_t 1661 (by decide +kernel) rfl
theorem zi_MPainter_26 : u_lay "OrreryBoxModel$Painter" zT_MPainter 26 ∈ gw := gw_t 1663 (by decide +kernel) rfl
theorem zi_MPainter_27 : u_lay "OrreryBoxModel$Painter" zT_MPainter 27 ∈ gw := gw_t 1665 (by decide +kernel) rfl
theorem zi_MPainter_28 : u_lay "OrreryBoxModel$Painter" zT_MPainter 28 ∈ gw := gw_t 1667 (by decide +kernel) rfl
theorem zi_MPainter_29 : u_lay "OrreryBoxModel$Painter" zT_MPainter 29 ∈ gw := gw_t 1669 (by decide +kernel) rfl
theorem zi_MPainter_30 : u_lay "OrreryBoxModel$Painter" zT_MPainter 30 ∈ gw := gw_t 1671 (by decide +kernel) rfl
theorem zi_MPainter : ∀ w ∈ u_ws "OrreryBoxModel$Painter" zT_MPainter 31, w ∈ gw := by
  intro w hw
  obtain ⟨k, hk, rfl⟩ := List.mem_map.mp hw
  have hk := List.mem_range.mp hk
  match k, hk with
  | 0, _ => exact zi_MPainter_0
  | 1, _ => exact zi_MPainter_1
  | 2, _ => exact zi_MPainter_2
  | 3, _ => exact zi_MPainter_3
  | 4, _ => exact zi_MPainter_4
  | 5, _ => exact zi_MPainter_5
  | 6, _ => exact zi_MPainter_6
  | 7, _ => exact zi_MPainter_7
  | 8, _ => exact zi_MPainter_8
  | 9, _ => exact zi_MPainter_9
  | 10, _ => exact zi_MPainter_10
  | 11, _ => exact zi_MPainter_11
  | 12, _ => exact zi_MPainter_12
  | 13, _ => exact zi_MPainter_13
  | 14, _ => exact zi_MPainter_14
  | 15, _ => exact zi_MPainter_15
  | 16, _ => exact zi_MPainter_16
  | 17, _ => exact zi_MPainter_17
  | 18, _ => exact zi_MPainter_18
  | 19, _ => exact zi_MPainter_19
  | 20, _ => exact zi_MPainter_20
  | 21, _ => exact zi_MPainter_21
  | 22, _ => exact zi_MPainter_22
  | 23, _ => exact zi_MPainter_23
  | 24, _ => exact zi_MPainter_24
  | 25, _ => exact zi_MPainter_25
  | 26, _ => exact zi_MPainter_26
  | 27, _ => exact zi_MPainter_27
  | 28, _ => exact zi_MPainter_28
  | 29, _ => exact zi_MPainter_29
  | 30, _ => exact zi_MPainter_30
  | k + 31, h => exact absurd h (by omega)
theorem zi_MReader_0 : u_lay "OrreryBoxModel$Reader" zT_MReader 0 ∈ gw := gw_t 1517 (by decide +kernel) rfl
theorem zi_MReader_1 : u_lay "OrreryBoxModel$Reader" zT_MReader 1 ∈ gw := gw_t 1519 (by decide +kernel) rfl
theorem zi_MReader_2 : u_lay "OrreryBoxModel$Reader" zT_MReader 2 ∈ gw := gw_t 1521 (by decide +kernel) rfl
theorem zi_MReader_3 : u_lay "OrreryBoxModel$Reader" zT_MReader 3 ∈ gw := gw_t 1523 (by decide +kernel) rfl
theorem zi_MReader_4 : u_lay "OrreryBoxModel$Reader" zT_MReader 4 ∈ gw := gw_t 1525 (by decide +kernel) rfl
theorem zi_MReader_5 : u_lay "OrreryBoxModel$Reader" zT_MReader 5 ∈ gw := gw_t 1527 (by decide +kernel) rfl
theorem zi_MReader_6 : u_lay "OrreryBoxModel$Reader" zT_MReader 6 ∈ gw := gw_t 1529 (by decide +kernel) rfl
theorem zi_MReader_7 : u_lay "OrreryBoxModel$Reader" zT_MReader 7 ∈ gw := gw_t 1531 (by decide +kernel) rfl
theorem zi_MReader_8 : u_lay "OrreryBoxModel$Reader" zT_MReader 8 ∈ gw := gw_t 1533 (by decide +kernel) rfl
theorem zi_MReader_9 : u_lay "OrreryBoxModel$Reader" zT_MReader 9 ∈ gw := gw_t 1535 (by decide +kernel) rfl
theorem zi_MReader_10 : u_lay "OrreryBoxModel$Reader" zT_MReader 10 ∈ gw := gw_t 1537 (by decide +kernel) rfl
theorem zi_MReader : ∀ w ∈ u_ws "OrreryBoxModel$Reader" zT_MReader 11, w ∈ gw := by
  intro w hw
  obtain ⟨k, hk, rfl⟩ := List.mem_map.mp hw
  have hk := List.mem_range.mp hk
  match k, hk with
  | 0, _ => exact zi_MReader_0
  | 1, _ => exact zi_MReader_1
  | 2, _ => exact zi_MReader_2
  | 3, _ => exact zi_MReader_3
  | 4, _ => exact zi_MReader_4
  | 5, _ => exact zi_MReader_5
  | 6, _ => exact zi_MReader_6
  | 7, _ => exact zi_MReader_7
  | 8, _ => exact zi_MReader_8
  | 9, _ => exact zi_MReader_9
  | 10, _ => exact zi_MReader_10
  | k + 11, h => exact absurd h (by omega)
theorem zi_MScene_0 : u_lay "OrreryBoxModel$Scene" zT_MScene 0 ∈ gw := gw_t 1424 (by decide +kernel) rfl
theorem zi_MScene_1 : u_lay "OrreryBoxModel$Scene" zT_MScene 1 ∈ gw := gw_t 1426 (by decide +kernel) rfl
theorem zi_MScene_2 : u_lay "OrreryBoxModel$Scene" zT_MScene 2 ∈ gw := gw_t 1428 (by decide +kernel) rfl
theorem zi_MScene_3 : u_lay "OrreryBoxModel$Scene" zT_MScene 3 ∈ gw := gw_t 1430 (by decide +kernel) rfl
theorem zi_MScene_4 : u_lay "OrreryBoxModel$Scene" zT_MScene 4 ∈ gw := gw_t 1432 (by decide +kernel) rfl
theorem zi_MScene_5 : u_lay "OrreryBoxModel$Scene" zT_MScene 5 ∈ gw := gw_t 1434 (by decide +kernel) rfl
theorem zi_MScene_6 : u_lay "OrreryBoxModel$Scene" zT_MScene 6 ∈ gw := gw_t 1436 (by decide +kernel) rfl
theorem zi_MScene_7 : u_lay "OrreryBoxModel$Scene" zT_MScene 7 ∈ gw := gw_t 1438 (by decide +kernel) rfl
theorem zi_MScene_8 : u_lay "OrreryBoxModel$Scene" zT_MScene 8 ∈ gw := gw_t 1440 (by decide +kernel) rfl
theorem zi_MScene_9 : u_lay "OrreryBoxModel$Scene" zT_MScene 9 ∈ gw := gw_t 1442 (by decide +kernel) rfl
theorem zi_MScene_10 : u_lay "OrreryBoxModel$Scene" zT_MScene 10 ∈ gw := gw_t 1444 (by decide +kernel) rfl
theorem zi_MScene_11 : u_lay "OrreryBoxModel$Scene" zT_MScene 11 ∈ gw := gw_t 1446 (by decide +kernel) rfl
theorem zi_MScene_12 : u_lay "OrreryBoxModel$Scene" zT_MScene 12 ∈ gw := gw_t 1448 (by decide +kernel) rfl
theorem zi_MScene_13 : u_lay "OrreryBoxModel$Scene" zT_MScene 13 ∈ gw := gw_t 1450 (by decide +kernel) rfl
theorem zi_MScene_14 : u_lay "OrreryBoxModel$Scene" zT_MScene 14 ∈ gw := gw_t 1452 (by decide +kernel) rfl
theorem zi_MScene_15 : u_lay "OrreryBoxModel$Scene" zT_MScene 15 ∈ gw := gw_t 1454 (by decide +kernel) rfl
theorem zi_MScene_16 : u_lay "OrreryBoxModel$Scene" zT_MScene 16 ∈ gw := gw_t 1456 (by decide +kernel) rfl
theorem zi_MScene_17 : u_lay "OrreryBoxModel$Scene" zT_MScene 17 ∈ gw := gw_t 1458 (by decide +kernel) rfl
theorem zi_MScene_18 : u_lay "OrreryBoxModel$Scene" zT_MScene 18 ∈ gw := gw_t 1460 (by decide +kernel) rfl
theorem zi_MScene_19 : u_lay "OrreryBoxModel$Scene" zT_MScene 19 ∈ gw := gw_t 1462 (by decide +kernel) rfl
theorem zi_MScene_20 : u_lay "OrreryBoxModel$Scene" zT_MScene 20 ∈ gw := gw_t 1464 (by decide +kernel) rfl
theorem zi_MScene_21 : u_lay "OrreryBoxModel$Scene" zT_MScene 21 ∈ gw := gw_t 1466 (by decide +kernel) rfl
theorem zi_MScene_22 : u_lay "OrreryBoxModel$Scene" zT_MScene 22 ∈ gw := gw_t 1468 (by decide +kernel) rfl
theorem zi_MScene_23 : u_lay "OrreryBoxModel$Scene" zT_MScene 23 ∈ gw := gw_t 1470 (by decide +kernel) rfl
theorem zi_MScene_24 : u_lay "OrreryBoxModel$Scene" zT_MScene 24 ∈ gw := gw_t 1472 (by decide +kernel) rfl
theorem zi_MScene_25 : u_lay "OrreryBoxModel$Scene" zT_MScene 25 ∈ gw := gw_t 1474 (by decide +kernel) rfl
theorem zi_MScene_26 : u_lay "OrreryBoxModel$Scene" zT_MScene 26 ∈ gw := gw_t 1476 (by decide +kernel) rfl
theorem zi_MScene_27 : u_lay "OrreryBoxModel$Scene" zT_MScene 27 ∈ gw := gw_t 1478 (by decide +kernel) rfl
theorem zi_MScene_28 : u_lay "OrreryBoxModel$Scene" zT_MScene 28 ∈ gw := gw_t 1480 (by decide +kernel) rfl
theorem zi_MScene_29 : u_lay "OrreryBoxModel$Scene" zT_MScene 29 ∈ gw := gw_t 1482 (by decide +kernel) rfl
theorem zi_MScene_30 : u_lay "OrreryBoxModel$Scene" zT_MScene 30 ∈ gw := gw_t 1484 (by decide +kernel) rfl
theorem zi_MScene_31 : u_lay "OrreryBoxModel$Scene" zT_MScene 31 ∈ gw := gw_t 1486 (by decide +kernel) rfl
theorem zi_MScene_32 : u_lay "OrreryBoxModel$Scene" zT_MScene 32 ∈ gw := gw_t 1488 (by decide +kernel) rfl
theorem zi_MScene_33 : u_lay "OrreryBoxModel$Scene" zT_MScene 33 ∈ gw := gw_t 1490 (by decide +kernel) rfl
theorem zi_MScene_34 : u_lay "OrreryBoxModel$Scene" zT_MScene 34 ∈ gw := gw_t 1492 (by decide +kernel) rfl
theorem zi_MScene_35 : u_lay "OrreryBoxModel$Scene" zT_MScene 35 ∈ gw := gw_t 1494 (by decide +kernel) rfl
theorem zi_MScene : ∀ w ∈ u_ws "OrreryBoxModel$Scene" zT_MScene 36, w ∈ gw := by
  intro w hw
  obtain ⟨k, hk, rfl⟩ := List.mem_map.mp hw
  have hk := List.mem_range.mp hk
  match k, hk with
  | 0, _ => exact zi_MScene_0
  | 1, _ => exact zi_MScene_1
  | 2, _ => exact zi_MScene_2
  | 3, _ => exact zi_MScene_3
  | 4, _ => exact zi_MScene_4
  | 5, _ => exact zi_MScene_5
  | 6, _ => exact zi_MScene_6
  | 7, _ => exact zi_MScene_7
  | 8, _ => exact zi_MScene_8
  | 9, _ => exact zi_MScene_9
  | 10, _ => exact zi_MScene_10
  | 11, _ => exact zi_MScene_11
  | 12, _ => exact zi_MScene_12
  | 13, _ => exact zi_MScene_13
  | 14, _ => exact zi_MScene_14
  | 15, _ => exact zi_MScene_15
  | 16, _ => exact zi_MScene_16
  | 17, _ => exact zi_MScene_17
  | 18, _ => exact zi_MScene_18
  | 19, _ => exact zi_MScene_19
  | 20, _ => exact zi_MScene_20
  | 21, _ => exact zi_MScene_21
  | 22, _ => exact zi_MScene_22
  | 23, _ => exact zi_MScene_23
  | 24, _ => exact zi_MScene_24
  | 25, _ => exact zi_MScene_25
  | 26, _ => exact zi_MScene_26
  | 27, _ => exact zi_MScene_27
  | 28, _ => exact zi_MScene_28
  | 29, _ => exact zi_MScene_29
  | 30, _ => exact zi_MScene_30
  | 31, _ => exact zi_MScene_31
  | 32, _ => exact zi_MScene_32
  | 33, _ => exact zi_MScene_33
  | 34, _ => exact zi_MScene_34
  | 35, _ => exact zi_MScene_35
  | k + 36, h => exact absurd h (by omega)
theorem zk_in {ci : Nat} {q : vw_C} (h : classes[ci]? = some q) : ∀ w ∈ u_ws q.1 q.2.1 q.2.2, w ∈ gw := by
  match ci, h with
  | 0, h => cases h; exact zi_OB
  | 1, h => cases h; exact zi_MD
  | 2, h => cases h; exact zi_XMesh
  | 3, h => cases h; exact zi_XNode
  | 4, h => cases h; exact zi_XPacker
  | 5, h => cases h; exact zi_XPicture
  | 6, h => cases h; exact zi_XPiece
  | 7, h => cases h; exact zi_XReader
  | 8, h => cases h; exact zi_XScene
  | 9, h => cases h; exact zi_XSight
  | 10, h => cases h; exact zi_XTexture
  | 11, h => cases h; exact zi_XTrack
  | 12, h => cases h; exact zi_MPacker
  | 13, h => cases h; exact zi_MPainter
  | 14, h => cases h; exact zi_MReader
  | 15, h => cases h; exact zi_MScene
  | k + 16, h => simp [classes] at h
theorem zk_tok {ci : Nat} {q : vw_C} (h : classes[ci]? = some q) : ∀ k, k < q.2.2 → parseFieldDescriptor (q.2.1 k).2.2.1 = some (zk_ty ci k) := by
  match ci, h with
  | 0, h => cases h; exact zo_OB
  | 1, h => cases h; exact zo_MD
  | 2, h => cases h; exact zo_XMesh
  | 3, h => cases h; exact zo_XNode
  | 4, h => cases h; exact zo_XPacker
  | 5, h => cases h; exact zo_XPicture
  | 6, h => cases h; exact zo_XPiece
  | 7, h => cases h; exact zo_XReader
  | 8, h => cases h; exact zo_XScene
  | 9, h => cases h; exact zo_XSight
  | 10, h => cases h; exact zo_XTexture
  | 11, h => cases h; exact zo_XTrack
  | 12, h => cases h; exact zo_MPacker
  | 13, h => cases h; exact zo_MPainter
  | 14, h => cases h; exact zo_MReader
  | 15, h => cases h; exact zo_MScene
  | k + 16, h => simp [classes] at h
theorem zk_nm {ci : Nat} {q : vw_C} (h : classes[ci]? = some q) : ∀ a, a < q.2.2 → ∀ b, b < q.2.2 → a ≠ b → (q.2.1 a).2.1 ≠ (q.2.1 b).2.1 := by
  match ci, h with
  | 0, h => cases h; exact zn_OB
  | 1, h => cases h; exact zn_MD
  | 2, h => cases h; exact zn_XMesh
  | 3, h => cases h; exact zn_XNode
  | 4, h => cases h; exact zn_XPacker
  | 5, h => cases h; exact zn_XPicture
  | 6, h => cases h; exact zn_XPiece
  | 7, h => cases h; exact zn_XReader
  | 8, h => cases h; exact zn_XScene
  | 9, h => cases h; exact zn_XSight
  | 10, h => cases h; exact zn_XTexture
  | 11, h => cases h; exact zn_XTrack
  | 12, h => cases h; exact zn_MPacker
  | 13, h => cases h; exact zn_MPainter
  | 14, h => cases h; exact zn_MReader
  | 15, h => cases h; exact zn_MScene
  | k + 16, h => simp [classes] at h
def zt (tA : Nat → ClassId) : List (ClassId × FieldType) := [(tA 0, .int), (tA 1, .byte), (tA 2, .long), (tA 3, .boolean), (tA 4, .object "OrreryBox$Scene"), (tA 5, .object "OrreryBox$Texture"), (tA 6, .object "OrreryBox$Mesh"), (tA 7, .object "OrreryBox$Node"), (tA 8, .object "OrreryBox$Track"), (tA 9, .array .int)]
def zao : List String := ["OrreryBox$Scene", "OrreryBox$Texture", "OrreryBox$Mesh", "OrreryBox$Node", "OrreryBox$Track"]
def zlim (j : Nat) : Value := .int (([8, 16, 16, 48, 32] : List Int32).getD j 0)
def zstr : List (String × Nat × String) := [("OrreryBox$Packer", 46, "IHDR"), ("OrreryBox$Packer", 59, "IDAT"), ("OrreryBox$Packer", 68, "IEND"), ("OrreryBox$Reader", 81, "textures"), ("OrreryBox$Reader", 83, "materials"), ("OrreryBox$Reader", 85, "meshes"), ("OrreryBox$Reader", 87, "nodes"), ("OrreryBox$Reader", 89, "tracks"), ("OrreryBox$Reader", 91, "camera"), ("OrreryBox$Reader", 93, "light"), ("OrreryBox$Reader", 226, "move"), ("OrreryBox$Reader", 232, "turn"), ("OrreryBox$Reader", 269, "focus"), ("OrreryBox$Reader", 271, "toward"), ("OrreryBox$Reader", 276, "ambient"), ("OrreryBox$Reader", 136, "side"), ("OrreryBox$Reader", 149, "wrap"), ("OrreryBox$Reader", 153, "soft"), ("OrreryBox$Reader", 158, "texels"), ("OrreryBox$Reader", 167, "colour"), ("OrreryBox$Reader", 175, "texture"), ("OrreryBox$Reader", 177, "both"), ("OrreryBox$Reader", 179, "material"), ("OrreryBox$Reader", 185, "points"), ("OrreryBox$Reader", 194, "normals"), ("OrreryBox$Reader", 200, "places"), ("OrreryBox$Reader", 206, "faces"), ("OrreryBox$Reader", 218, "parent"), ("OrreryBox$Reader", 222, "mesh"), ("OrreryBox$Reader", 234, "size"), ("OrreryBox$Reader", 236, "node"), ("OrreryBox$Reader", 242, "what"), ("OrreryBox$Reader", 246, "how"), ("OrreryBox$Reader", 250, "times"), ("OrreryBox$Reader", 262, "values"), ("OrreryBoxModel$Reader", 278, "textures"), ("OrreryBoxModel$Reader", 279, "materials"), ("OrreryBoxModel$Reader", 280, "meshes"), ("OrreryBoxModel$Reader", 281, "nodes"), ("OrreryBoxModel$Reader", 282, "tracks"), ("OrreryBoxModel$Reader", 283, "camera"), ("OrreryBoxModel$Reader", 285, "light"), ("OrreryBoxModel$Reader", 120, "side"), ("OrreryBoxModel$Reader", 128, "wrap"), ("OrreryBoxModel$Reader", 132, "soft"), ("OrreryBoxModel$Reader", 133, "texels"), ("OrreryBoxModel$Reader", 138, "colour"), ("OrreryBoxModel$Reader", 145, "texture"), ("OrreryBoxModel$Reader", 152, "both"), ("OrreryBoxModel$Reader", 156, "material"), ("OrreryBoxModel$Reader", 160, "points"), ("OrreryBoxModel$Reader", 167, "normals"), ("OrreryBoxModel$Reader", 172, "places"), ("OrreryBoxModel$Reader", 177, "faces"), ("OrreryBoxModel$Reader", 187, "parent"), ("OrreryBoxModel$Reader", 191, "mesh"), ("OrreryBoxModel$Reader", 195, "move"), ("OrreryBoxModel$Reader", 203, "turn"), ("OrreryBoxModel$Reader", 207, "size"), ("OrreryBoxModel$Reader", 217, "node"), ("OrreryBoxModel$Reader", 225, "what"), ("OrreryBoxModel$Reader", 229, "how"), ("OrreryBoxModel$Reader", 230, "times"), ("OrreryBoxModel$Reader", 238, "values"), ("OrreryBoxModel$Reader", 266, "focus"), ("OrreryBoxModel$Reader", 270, "toward"), ("OrreryBoxModel$Reader", 274, "ambient")]
def ztxB : List (List Int32) := [[73, 72, 68, 82], [73, 68, 65, 84], [73, 69, 78, 68], [116, 101, 120, 116, 117, 114, 101, 115], [109, 97, 116, 101, 114, 105, 97, 108, 115], [109, 101, 115, 104, 101, 115], [110, 111, 100, 101, 115], [116, 114, 97, 99, 107, 115], [99, 97, 109, 101, 114, 97], [108, 105, 103, 104, 116], [109, 111, 118, 101], [116, 117, 114, 110], [102, 111, 99, 117, 115], [116, 111, 119, 97, 114, 100], [97, 109, 98, 105, 101, 110, 116], [115, 105, 100, 101], [119, 114, 97, 112], [115, 111, 102, 116], [116, 101, 120, 101, 108, 115], [99, 111, 108, 111, 117, 114], [116, 101, 120, 116, 117, 114, 101], [98, 111, 116, 104], [109, 97, 116, 101, 114, 105, 97, 108], [112, 111, 105, 110, 116, 115], [110, 111, 114, 109, 97, 108, 115], [112, 108, 97, 99, 101, 115], [102, 97, 99, 101, 115], [112, 97, 114, 101, 110, 116], [109, 101, 115, 104], [115, 105, 122, 101], [110, 111, 100, 101], [119, 104, 97, 116], [104, 111, 119], [116, 105, 109, 101, 115], [118, 97, 108, 117, 101, 115], [116, 101, 120, 116, 117, 114, 101, 115], [109, 97, 116, 101, 114, 105, 97, 108, 115], [109, 101, 115, 104, 101, 115], [110, 111, 100, 101, 115], [116, 114, 97, 99, 107, 115], [99, 97, 109, 101, 114, 97], [108, 105, 103, 104, 116], [115, 105, 100, 101], [119, 114, 97, 112], [115, 111, 102, 116], [116, 101, 120, 101, 108, 115], [99, 111, 108, 111, 117, 114], [116, 101, 120, 116, 117, 114, 101], [98, 111, 116, 104], [109, 97, 116, 101, 114, 105, 97, 108], [112, 111, 105, 110, 116, 115], [110, 111, 114, 109, 97, 108, 115], [112, 108, 97, 99, 101, 115], [102, 97, 99, 101, 115], [112, 97, 114, 101, 110, 116], [109, 101, 115, 104], [109, 111, 118, 101], [116, 117, 114, 110], [115, 105, 122, 101], [110, 111, 100, 101], [119, 104, 97, 116], [104, 111, 119], [116, 105, 109, 101, 115], [118, 97, 108, 117, 101, 115], [102, 111, 99, 117, 115], [116, 111, 119, 97, 114, 100], [97, 109, 98, 105, 101, 110, 116]]
abbrev ztxb (i : Nat) : List Int32 := ztxB.getD i []
def zAA (U : State) : Prop := ∃ (comp cA cc : ClassId) (kA kC : Class), U.vm.findClass "[I" = some comp ∧ U.vm.findClass "[[I" = some cA ∧ U.vm.classes[cA]? = some kA ∧ kA.kind = .array comp (.array .int) ∧ U.vm.classes[comp]? = some kC ∧ kC.kind = .array cc .int
theorem zAA.moved {u U : State} (hvm : u.vm.Alike U.vm) (h : zAA u) : zAA U := by
  obtain ⟨comp, cA, cc, kA, kC, h1, h2, h3, h4, h5, h6⟩ := h
  obtain ⟨kA', a1, a2⟩ := hvm.2.2 _ _ h3
  obtain ⟨kC', c1, c2⟩ := hvm.2.2 _ _ h5
  exact ⟨comp, cA, cc, kA', kC', by rw [hvm.findClass]; exact h1, by rw [hvm.findClass]; exact h2, a1, by rw [a2]; exact h4, c1, by rw [c2]; exact h6⟩
/-- a static of a reference type, in its place, that holds a reference or null: what 'throw' asks of Throwable's two -/
def zLS (C n d : String) (b : Nat) (U : State) (H : Heap) : Prop := ∃ (c : ClassId) (k : Class) (i : Nat) (f : Field) (a : Nat) (cell : Cell) (v : Value), U.vm.findClass C = some c ∧ U.fieldFound? C n d = some (c, k, i, f) ∧ f.isStatic = true ∧ k.statics = some a ∧ k.staticTypes[f.slot]? = some f.type ∧ H[a]? = some cell ∧ cell.vm.isStatics = true ∧ cell.cls = c ∧ f.slot < cell.slots.size ∧ cell.slots[f.slot]? = some v ∧ (v = .null ∨ ∃ q, v = .ref q) ∧ ¬ b ≤ a
theorem zLS.moved {C n d : String} {b : Nat} {u U : State} {H : Heap} (hvm : u.vm.Alike U.vm) (h : zLS C n d b u H) : zLS C n d b U H := by
  obtain ⟨c, k, i, f, a, cell, v, h1, h2, h3, h4, h5, h6⟩ := h
  obtain ⟨k', hi', he⟩ := State.fieldFound?_setVm hvm h2
  exact ⟨c, k', i, f, a, cell, v, by rw [hvm.findClass]; exact h1, hi', h3, by rw [he]; exact h4, by rw [he]; exact h5, h6⟩
theorem zLS.kept {C n d : String} {b : Nat} {U : State} {H H1 : Heap} (h : zLS C n d b U H) (hq : ∀ a : Nat, a < H.size → ¬ b ≤ a → H1[a]? = H[a]?) : zLS C n d b U H1 := by
  obtain ⟨c, k, i, f, a, cell, v, h1, h2, h3, h4, h5, h6, h7, h8, h9, h10, h11, h12⟩ := h
  exact ⟨c, k, i, f, a, cell, v, h1, h2, h3, h4, h5, by rw [hq a (Array.getElem?_eq_some_iff.mp h6).1 h12]; exact h6, h7, h8, h9, h10, h11, h12⟩
theorem zLS.lays {C n d : String} {b : Nat} {U : State} {args : Array Value} (h : zLS C n d b U U.heap) : (Cond.laysStatic C n d).before args U = true := by
  obtain ⟨c, k, i, f, a, cell, v, h1, h2, h3, h4, h5, h6, h7, h8, h9, h10, h11, h12⟩ := h
  simp [Cond.before, Cond.holds, Cond.value, h1, h2, h3, h4, h5, h6, h7, h8, h9]
theorem zLS.isRef {C n d : String} {b : Nat} {U : State} {args : Array Value} (h : zLS C n d b U U.heap) : (Cond.isRef (.static C n d)).before args U = true := by
  obtain ⟨c, k, i, f, a, cell, v, h1, h2, h3, h4, h5, h6, h7, h8, h9, h10, h11, h12⟩ := h
  have e : (Term.static C n d).eval args U none [] U = some v := by
    simp [Term.eval, State.fieldNamed?, h2, h3, h4, h6, h7, h10]
  rcases h11 with rfl | ⟨q, rfl⟩ <;> simp [Cond.before, Cond.holds, Cond.value, e]
theorem zLS.of {C n d : String} {s : State} {args : Array Value} (hl : (Cond.laysStatic C n d).before args s = true) (hr : (Cond.isRef (.static C n d)).before args s = true) : zLS C n d s.heap.size s s.heap := by
  obtain ⟨c, k, i, f, a, cell, h1, h2, h3, h4, h5, h6, h7, h8, h9⟩ := Cond.laysStatic_spec hl
  cases hv : (Term.static C n d).eval args s none [] s with
  | none => simp [Cond.before, Cond.holds, Cond.value, hv] at hr
  | some w =>
    obtain ⟨-, a', cell', q1, q2, -, q3⟩ := Term.static_spec h2 hv
    cases h4.symm.trans q1
    cases h5.symm.trans q2
    simp only [Cond.before, Cond.holds, Cond.value, hv] at hr
    refine ⟨c, k, i, f, a, cell, w, h1, h2, h3, h4, h9, h5, h6, h7, h8, q3, ?_, Nat.not_le.mpr (Array.getElem?_eq_some_iff.mp h5).1⟩
    cases w with
    | null => exact Or.inl rfl
    | ref t => exact Or.inr ⟨t, rfl⟩
    | _ => simp at hr
/-- the constant texts: number i lies at D.2 1000 i, its bytes at D.2 1001 i -/
def zSt (D : va_G) (b : Nat) (U : State) (H : Heap) : Prop := (∀ (i : Nat) (q : String × Nat × String), zstr[i]? = some q → vk_R q.1 q.2.1 q.2.2 (D.2 1000 i) U ∧ va_O "java/lang/String" (D.2 1000 i) (fun a => b ≤ a) U H ∧ va_OF "java/lang/String" "coder" "B" (.int 0) (D.2 1000 i) (fun a => b ≤ a) U H ∧ va_OF "java/lang/String" "value" "[B" (.ref (D.2 1001 i)) (D.2 1000 i) (fun a => b ≤ a) U H ∧ va_T .byte (D.2 1001 i) (ztxb i).length (fun j => .int ((ztxb i).getD j 0)) (fun a => b ≤ a) U H) ∧ va_Z "java/lang/String" "COMPACT_STRINGS" "Z" (.int 1) (fun a => b ≤ a) U H ∧ va_Zq "jdk/internal/util/Preconditions" "SIOOBE_FORMATTER" "Ljava/util/function/BiFunction;" (fun a => b ≤ a) U H
theorem zSt.same {D : va_G} {b : Nat} {u U : State} (hv : u.vm = U.vm) (hh : u.heap = U.heap) (h : zSt D b u u.heap) : zSt D b U U.heap := by
  obtain ⟨h1, h2, h3⟩ := h
  have ha : u.vm.Alike U.vm := by rw [hv]; exact Vm.Alike.refl _
  rw [← hh]
  refine ⟨fun i q hq => ?_, h2.moved ha, h3.moved ha⟩
  obtain ⟨g1, g2, g3, g4, g5⟩ := h1 i q hq
  exact ⟨vk_R.same hv.symm g1, g2.moved ha, g3.moved ha, g4.moved ha, g5.moved ha⟩
theorem zSt.to {D : va_G} {b : Nat} {s U : State} {H : Heap} {locs : List Loc} (h : zSt D b s s.heap) (hS : va_S (fun q => b ≤ q) s.heap H locs) (hU : U.heap = H) (hW : s.WarmedH U.vm) : zSt D b U U.heap := by
  obtain ⟨h1, h2, h3⟩ := h
  have ha := hW.alike
  rw [hU]
  refine ⟨fun i q hq => ?_, (h2.kept hS.2.1).moved ha, (h3.kept hS.2.1).moved ha⟩
  obtain ⟨g1, g2, g3, g4, g5⟩ := h1 i q hq
  exact ⟨vk_R.warm hW g1, (g2.kept hS.2.1).moved ha, (g3.kept hS.2.1).moved ha, (g4.kept hS.2.1).moved ha, (g5.kept hS.2.1).moved ha⟩
/-- what stands outside the worlds and stays: the links to nest mates' members, the array classes, the table LIMITS, the texts -/
def zG (D : va_G) (b : Nat) (U : State) (H : Heap) : Prop := (∀ w ∈ gn, va_Nw w U) ∧ (∀ C ∈ zao, va_AO C U) ∧ zAA U ∧ (∃ t : Nat, va_Z "OrreryBox" "LIMITS" "[I" (.ref t) (fun q => b ≤ q) U H ∧ va_T .int t 5 zlim (fun q => b ≤ q) U H) ∧ zLS "java/lang/Throwable" "UNASSIGNED_STACK" "[Ljava/lang/StackTraceElement;" b U H ∧ zLS "java/lang/Throwable" "SUPPRESSED_SENTINEL" "Ljava/util/List;" b U H ∧ zSt D b U H
theorem zb_on {w : Cond} (h : zb_nest w = true) : w.onTables = true := by cases w <;> first | rfl | cases h
theorem zb_warm {w : Cond} (h : zb_nest w = true) {s U : State} (hW : s.WarmedH U.vm) (hz : va_Nw w s) : va_Nw w U := by
  cases w <;> first | (cases h; done) | exact va_Nw.warmF hW hz | exact va_Nw.warmM hW hz | exact va_Nw.warmD hW hz | exact va_Nw.warmC hW hz
theorem zG.same {D : va_G} {b : Nat} {u U : State} (hv : u.vm = U.vm) (hh : u.heap = U.heap) (h : zG D b u u.heap) : zG D b U U.heap := by
  obtain ⟨h1, h2, h3, ⟨t, h4, h5⟩, h6, h7, h8⟩ := h
  have ha : u.vm.Alike U.vm := by rw [hv]; exact Vm.Alike.refl _
  exact ⟨fun w hw => va_Nw.same (zb_on (List.mem_filter.mp hw).2) hv (h1 w hw), fun C hC => (h2 C hC).moved ha, h3.moved ha, ⟨t, by rw [← hh]; exact h4.moved ha, by rw [← hh]; exact h5.moved ha⟩, by rw [← hh]; exact h6.moved ha, by rw [← hh]; exact h7.moved ha, h8.same hv hh⟩
theorem zG.to {D : va_G} {b : Nat} {s U : State} {H : Heap} {locs : List Loc} (h : zG D b s s.heap) (hS : va_S (fun q => b ≤ q) s.heap H locs) (hU : U.heap = H) (hW : s.WarmedH U.vm) : zG D b U U.heap := by
  obtain ⟨h1, h2, h3, ⟨t, h4, h5⟩, h6, h7, h8⟩ := h
  have ha := hW.alike
  exact ⟨fun w hw => zb_warm (List.mem_filter.mp hw).2 hW (h1 w hw), fun C hC => (h2 C hC).moved ha, h3.moved ha, ⟨t, by rw [hU]; exact (h4.kept hS.2.1).moved ha, by rw [hU]; exact (h5.kept hS.2.1).moved ha⟩, by rw [hU]; exact (h6.kept hS.2.1).moved ha, by rw [hU]; exact (h7.kept hS.2.1).moved ha, h8.to hS hU hW⟩
