/** The example of README.md, call by call. */
public final class ReadmeTest {
    public static void main(String[] args) {
        Check check = new Check();
        CarvedRinks rinks = new CarvedRinks();
        check.same("glide(0, 1, 2)", 2, rinks.glide(0, 1, 2));
        check.same("glide(0, 2, 2)", 2, rinks.glide(0, 2, 2));
        check.same("ifGlided(0, 3, 2, 1)", 4, rinks.ifGlided(0, 3, 2, 1));
        check.same("glide(0, 3, 2)", 2, rinks.glide(0, 3, 2));
        check.same("skater(0, 3)", 4, rinks.skater(0, 3));
        check.same("cell(1, 1, 2)", 0, rinks.cell(1, 1, 2));
        check.same("undo()", 2, rinks.undo());
        Ponds.write(rinks, "0w2;t");
        check.same("play()", 2, rinks.play());
        check.same("count(1)", 2, rinks.count(1));
        check.end();
    }
}
