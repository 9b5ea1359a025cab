/** 512 calls on an object that is as full as can be: that they end soon, and answer the same each time. */
public final class DearestCallsTest {
    public static void main(String[] args) {
        CleaningBench x = new CleaningBench();
        x.table(0, 6, 444444);
        for (int r = 0; r < 12; r++) {
            Due.row(x, 0, 1 + r, 1, 1, 1, 1, 1, 1);
        }
        for (int l = 0; l < 9; l++) {
            x.law(4, 0, 0, 1, 6, 0);
        }
        x.among(0, 0, 0, 1);
        for (int p = 0; p < 3; p++) {
            x.part(0);
        }
        for (int j = 0; j < 6; j++) {
            x.join(0, j, 1 + j % 2, 5 - j);
        }
        for (int i = 0; i < 101; i++) {
            Due.is("often", x.often(), 924);
            Due.is("against", x.against(), CleaningBench.NONE);
            Due.is("blame", x.blame(0), 462);
            Due.is("best", x.best(), 0b111111);
        }
        Due.end();
    }
}
