import java.lang.annotation.ElementType;
import java.lang.annotation.Repeatable;
import java.lang.annotation.Retention;
import java.lang.annotation.RetentionPolicy;
import java.lang.annotation.Target;

/**
 * One way to break the sentence of a boundary test: the class with the first "from" behind "in", in the same
 * member, replaced by "to". MutantsTest sees to it that the test fails then.
 */
@Retention(RetentionPolicy.RUNTIME)
@Target(ElementType.METHOD)
@Repeatable(Broken.Ways.class)
@interface Broken {
    String in();

    String from();

    String to();

    @Retention(RetentionPolicy.RUNTIME)
    @Target(ElementType.METHOD)
    @interface Ways {
        Broken[] value();
    }
}
