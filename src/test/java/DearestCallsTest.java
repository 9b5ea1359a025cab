/** 512 calls on one object: that the dearest ones end soon, and that each answers as the first did. */
public final class DearestCallsTest {
    private static final int CALLS = 512;

    public static void main(String[] args) {
        dearest();
        findings();
        Due.end();
    }

    private static void dearest() {
        CleaningBench x = new CleaningBench();
        x.table(0, 6, 444444);
        for (int r = 0; r < 12; r++) {
            Due.row(x, 0, 1 + r, 1, 1, 1, 1, 1, 1);
        }
        for (int l = 0; l < 9; l++) {
            x.law(4, 0, 0, 1, 6, 0);
        }
        x.among(0, 0, 0, 1);
        for (int p = 0; p < 3; p++) {
            x.part(0);
        }
        for (int j = 0; j < 6; j++) {
            x.join(0, j, 1 + j % 2, 5 - j);
        }
        int made = 1 + 12 * 7 + 10 + 3 + 6;
        for (int i = made; i < CALLS; i += 4) {
            Due.is("often", x.often(), 924);
            Due.is("against", x.against(), CleaningBench.NONE);
            Due.is("blame", x.blame(0), 462);
            Due.is("best", x.best(), 0b111111);
        }
    }

    private static void findings() {
        CleaningBench x = new CleaningBench();
        for (int i = 1; i < CALLS; i++) {
            Due.is("36: NULL " + i, x.row(3, 1), CleaningBench.NULL);
        }
        Due.is("36: call 512: each finding is counted", x.count(4), CALLS - 1);
    }
}
