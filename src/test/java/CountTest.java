/** Promise 43: how many. */
public final class CountTest {
    public static void main(String[] args) {
        Check c = new Check();
        MoonReapers x = Check.told("night 9;strip 4 0;strip 0 1;strip 9 2;reaper 4 3 0;reaper 2 5 2;cloud 0;");
        c.due("STRIPS with YARDS", x.count(0), 2);
        c.due("all WAGES", x.count(1), 0);
        c.due("all OIL", x.count(2), 8);
        x.go(1);
        c.due("STRIPS with YARDS", x.count(0), 1);
        c.due("all WAGES", x.count(1), 6);
        c.due("all OIL", x.count(2), 6);
        x.see(0, 0, true);
        x.see(0, 0, true);
        c.due("SEEN", x.count(3), 2);
        x.pay(0, 1);
        c.due("PAID", x.count(4), 1);
        x.keep(1);
        c.due("IMAGES", x.count(5), 1);
        x.keep(1);
        c.due("IMAGES", x.count(5), 1);
        x.keep(0);
        c.due("IMAGES", x.count(5), 2);
        x.feed(';');
        x.feed(';');
        x.feed(';');
        c.due("bytes on THE TAPE", x.count(6), 3);
        x.sheet(1, 0, 9);
        c.due("CELLS of SHEET 0, nothing", x.count(7), MoonReapers.NONE);
        x.sheet(0, 0, 0);
        c.due("CELLS of SHEET 0", x.count(7), 0);
        x.sheet(0, 2, 17);
        c.due("CELLS of SHEET 0", x.count(7), 17);
        c.due("count(8)", x.count(8), MoonReapers.BAD);
        c.due("count(-1)", x.count(-1), MoonReapers.BAD);
        c.finish();
    }
}
