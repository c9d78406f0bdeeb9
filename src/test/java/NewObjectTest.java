/** Promise 1: a new object has no GENERATORS, no PROPERTIES and no ROW. */
public final class NewObjectTest {
    public static void main(String[] args) {
        Due due = new Due();
        PropertyShrink x = new PropertyShrink();
        due.is("NONE", PropertyShrink.NONE, -1);
        due.rowIs("new", x);
        due.numbersAre("new", x);
        due.is("size(2)", x.size(2), 0);
        due.is("size(3)", x.size(3), 0);
        due.is("least()", x.least(), false);
        due.is("sum()", x.sum(), 0);
        due.is("shrink(0)", x.shrink(0), -1);
        due.is("shrink(400)", x.shrink(400), -1);
        due.is("least() behind shrink", x.least(), false);
        due.is("replay(0, 0)", x.replay(0, 0), -1);
        due.is("check(0, 0, 0, 1)", x.check(0, 0, 0, 1), -3);
        due.is("all(0, 1)", x.all(0, 1), -1);
        due.is("generator(5, 0, 0)", x.generator(5, 0, 0), -1);
        due.is("first generator", x.generator(0, 0, 0), 0);
        due.is("check without a property", x.check(0, 0, 0, 1), -3);
        due.is("first property", x.property(3, 0, 0), 0);
        PropertyShrink y = new PropertyShrink();
        due.is("another object's generators", y.all(0, 1), -1);
        due.is("another object's properties", y.property(3, 0, 0), 0);
        due.end();
    }
}
