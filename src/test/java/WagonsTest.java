import java.util.Set;

/** Promise 22: moves. */
public final class WagonsTest {
    public static void main(String[] args) {
        OperaHouse x = new OperaHouse();
        for (int most = 0; most <= 40; most++) {
            Check.same("set 0, " + most, x.moves(0, most), 0);
            for (int set = 1; set <= 3; set++) {
                Check.same("set " + set + ", " + most, x.moves(set, most), most < 3 ? -1 : 3);
            }
        }
        Check.same("set -1", x.moves(-1, 10), -1);
        Check.same("set 4", x.moves(4, 10), -1);
        Check.same("most -1", x.moves(0, -1), -1);
        Check.same("most 41", x.moves(0, 41), -1);
        Check.same("most of all", x.moves(1, Integer.MAX_VALUE), -1);
        noCallsCount();
        oneBehindTheOther();
        asTheModel();
        Check.end();
    }

    private static void noCallsCount() {
        OperaHouse x = new OperaHouse();
        Check.opera(x, 6, 2, false, 1, 0, 1, 0, 0);
        for (int k = 0; k < 4; k++) {
            x.call(0, 6 * k, 2, 0, 0);
        }
        x.wrong(0);
        Check.same("calls do not matter", x.moves(2, 3), 3);
        Check.same("and again", x.moves(0, 0), 0);
    }

    /** Fulls of all sets close behind each other, in 200 rows that a written-out number makes. */
    private static void asTheModel() {
        long seed = 4711;
        for (int row = 0; row < 200; row++) {
            OperaHouse x = new OperaHouse();
            Model m = new Model();
            for (int set = 0; set < 4; set++) {
                Check.opera(x, 2, set, false, 1, 0, 1, 0, 0);
                m.feed(0, 0x00010000, 0, 0, 0);
                m.end(8);
                m.opera(2, set, false, 1);
            }
            int hour = 0;
            for (int k = 0; k < 40; k++) {
                seed = seed * 6364136223846793005L + 1442695040888963407L;
                int o = (int) (seed >>> 40) & 3;
                hour += (int) (seed >>> 50) % 5 + (k == 0 ? (int) (seed >>> 45) % 16 : 0);
                if (hour % 24 < 22) {
                    x.call(hour / 24, hour % 24, 2, o, 0);
                    m.call(hour / 24, hour % 24, 2, o, 0);
                }
                hour += 2;
            }
            Set<Integer> wrong = m.wrongSets();
            int calls = x.count(3);
            int[][] all = Check.wrongs(x, 0);
            for (int c = 0; c < calls; c++) {
                Check.same("row " + row + ", call " + c, Check.times(all, 2, c, -1), wrong.contains(c) ? 1 : 0);
            }
        }
    }

    /** By kind 2: how many hours each set needs to follow each other one at stage, with time to make ready. */
    private static void oneBehindTheOther() {
        for (int first = 0; first < 4; first++) {
            for (int second = 0; second < 4; second++) {
                for (int gap = 0; gap < 4; gap++) {
                    OperaHouse x = new OperaHouse();
                    Check.opera(x, 2, first, false, 1, 0, 1, 0, 0);
                    Check.opera(x, 2, second, false, 1, 0, 1, 0, 0);
                    x.call(5, 10, 2, 0, 0);
                    int c = x.call(5, 12 + gap, 2, 1, 0);
                    boolean can = first == second || gap >= 2;
                    Check.same("set " + second + " " + gap + " hours behind " + first,
                            Check.times(x, 0, 2, c, -1), can ? 0 : 1);
                }
            }
        }
    }
}
