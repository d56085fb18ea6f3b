/** Promises 37 and 38: images. */
public final class ImageTest {
    private static final String TEXT = "night 5;strip 9 0;strip 3 1;strip 7 2;reaper 4 2 0;reaper 2 5 2;cloud 1;thistle 2;";

    public static void main(String[] args) {
        Check c = new Check();
        MoonReapers x = Check.told(TEXT);
        c.due("keep(-1)", x.keep(-1), MoonReapers.BAD);
        c.due("keep(2)", x.keep(2), MoonReapers.BAD);
        c.due("back(-1)", x.back(-1), MoonReapers.BAD);
        c.due("back(2)", x.back(2), MoonReapers.BAD);
        c.due("back(0)", x.back(0), MoonReapers.STATE);
        x.go(1);
        x.see(1, 2, false);
        x.pay(1, x.ahead(1, 12, 4));
        c.holds("his wage is paid, so some beginnings fit, and not all", x.fits(0) > 0 && x.fits(0) < 9);
        c.due("keep(1)", x.keep(1), 0);
        c.due("keep(1) again", x.keep(1), 1);
        c.due("count(5)", x.count(5), 1);
        c.due("back(0) still", x.back(0), MoonReapers.STATE);
        String kept = all(x);
        change(x);
        c.holds("all was changed", !all(x).equals(kept));
        c.due("keep(0)", x.keep(0), 0);
        String changed = all(x);
        c.due("back(1)", x.back(1), 1);
        same(c, kept, all(x));
        c.due("back(0)", x.back(0), 4);
        same(c, changed, all(x));
        c.due("back(1), an image stays", x.back(1), 1);
        same(c, kept, all(x));
        c.due("count(5)", x.count(5), 2);
        x.end(0);
        x.text();
        c.due("a text takes the images", x.back(1), MoonReapers.STATE);
        c.due("a text takes the images", x.keep(0), 0);
        notInTheImage(c);
        c.finish();
    }

    private static void change(MoonReapers x) {
        x.go(3);
        x.grow(0, 33);
        x.own(0, 3);
        x.thistle(0, true);
        x.thistle(2, false);
        x.cloud(1, false);
        x.cloud(4, true);
        x.send(0, 1);
        x.fill(0, 9);
        x.whet(1, 1);
        x.forget(0);
        x.see(2, 1, true);
        x.see(3, 1, true);
        x.owe(0);
        x.pay(0, 50);
        x.pay(0, 51);
    }

    private static void notInTheImage(Check c) {
        MoonReapers x = Check.told(TEXT);
        x.keep(0);
        x.sheet(0, 0, 3);
        x.feed('a');
        x.read(1, 0, 0, 1);
        x.back(0);
        c.due("SHEETS are not in it", x.count(7), 3);
        c.due("THE TAPE is not in it", x.count(6), 1);
        c.due("torn() is not in it", x.torn(), 1);
    }

    private static void same(Check c, String kept, String now) {
        if (!kept.equals(now)) {
            System.out.println("kept " + kept + "\nnow  " + now);
        }
        c.holds("all is as it was kept", kept.equals(now));
    }

    /** All that can be asked of the state. */
    private static String all(MoonReapers x) {
        StringBuilder out = new StringBuilder();
        for (int what = 0; what <= 6; what++) {
            out.append(x.rule(what)).append(' ');
        }
        for (int i = 0; i < 3; i++) {
            for (int what = 0; what <= 3; what++) {
                out.append(x.strip(i, what)).append(' ');
            }
        }
        for (int r = 0; r < 2; r++) {
            for (int what = 0; what <= 4; what++) {
                out.append(x.reaper(r, what)).append(' ');
            }
            out.append(x.fits(10 + r)).append(' ');
        }
        for (int o = 0; o < 4; o++) {
            out.append(x.harvest(o)).append(' ');
        }
        for (int n = 0; n <= 6; n++) {
            out.append(x.hare(n)).append(' ');
        }
        return out.append(x.count(3)).append(' ').append(x.count(4)).append(' ').append(x.fits(0)).toString();
    }
}
