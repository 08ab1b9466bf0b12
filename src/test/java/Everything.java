import java.util.ArrayList;
import java.util.List;

/** All that a door can be asked, as one row of answers. The asking uses the door up; it takes some 400 calls. */
final class Everything {
    private final SumDoor door;
    private final List<Integer> row = new ArrayList<>();

    private Everything(SumDoor door) {
        this.door = door;
    }

    static List<Integer> of(SumDoor door) {
        Everything all = new Everything(door);
        all.askWorld();
        all.askSheets();
        all.askTape();
        all.row.add(door.undo());
        all.askWorld();
        all.askTape();
        return all.row;
    }

    private void askWorld() {
        for (int what = 0; what <= 7; what++) {
            row.add(door.count(what));
        }
        for (int p = 0; p <= 9; p++) {
            for (int what = 0; what <= 8; what++) {
                row.add(door.of(p, what));
            }
        }
        for (int sum = 0; sum < door.count(0); sum++) {
            for (int what = 0; what <= 3; what++) {
                row.add(door.sumOf(sum, what));
            }
            row.add(door.side(sum, 0, 7));
            row.add(door.side(sum, 1, 7));
        }
        for (int spot = 0; spot <= 9; spot++) {
            row.add(door.as(spot, 0));
        }
    }

    private void askSheets() {
        for (int s = 0; s <= 3; s++) {
            for (int t = 0; t < s; t++) {
                row.add(door.copy(s, 0, t, 0, 0));
            }
            row.add(lengthOf(s));
            row.add(door.load(s));
            for (int p = 0; p <= 9; p++) {
                row.add(door.of(p, 0));
            }
        }
    }

    private int lengthOf(int s) {
        int least = 0;
        int most = 41;
        while (most - least > 1) {
            int n = (least + most) / 2;
            if (door.copy(s, 0, s, 0, n) == n) {
                least = n;
            } else {
                most = n;
            }
        }
        return least;
    }

    /** What is on THE TAPE is only seen by the SUM, or the FAULT, that comes of it. */
    private void askTape() {
        int sum = door.sum(0, 10);
        row.add(sum);
        row.add(door.side(sum, 0, 7));
        row.add(door.side(sum, 1, 7));
    }
}
